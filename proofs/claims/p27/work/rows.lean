section
-- ===== PART A: goes FIRST, ahead of the names: the tables' words, and 'selects' of the private methods out of them =====
/-- a private method of a class that the tables say can be made, by its rows of tables_1 -/
def lw_okq (q : MethodName × Nat) : Prop := (q.1.cls ≠ "java/lang/invoke/MethodHandle" ∧ q.1.cls ≠ "java/lang/invoke/VarHandle") ∧ Cond.instantiable q.1.cls q.2 ∈ tables_1 ∧ Cond.privateMethod q.1 ∈ tables_1 ∧ Cond.instanceMethod q.1 ∈ tables_1
theorem lw_p0 : lw_okq (⟨"Tureenlist", "wishNumbered", "(I)LTureenlist$Wish;"⟩, 9) := ⟨⟨by decide +kernel, by decide +kernel⟩, List.mem_of_getElem? (i := 31) (by decide +kernel), List.mem_of_getElem? (i := 29) (by decide +kernel), List.mem_of_getElem? (i := 30) (by decide +kernel)⟩
theorem lw_p1 : lw_okq (⟨"java/lang/Throwable", "fillInStackTrace", "(I)Ljava/lang/Throwable;"⟩, 6) := ⟨⟨by decide +kernel, by decide +kernel⟩, List.mem_of_getElem? (i := 78) (by decide +kernel), List.mem_of_getElem? (i := 76) (by decide +kernel), List.mem_of_getElem? (i := 77) (by decide +kernel)⟩
theorem lw_p2 : lw_okq (⟨"Tureenlist", "giftsOf", "(LTureenlist$Wish;I)I"⟩, 9) := ⟨⟨by decide +kernel, by decide +kernel⟩, List.mem_of_getElem? (i := 31) (by decide +kernel), List.mem_of_getElem? (i := 126) (by decide +kernel), List.mem_of_getElem? (i := 127) (by decide +kernel)⟩
theorem lw_p3 : lw_okq (⟨"Tureenlist", "isJoined", "(I)Z"⟩, 9) := ⟨⟨by decide +kernel, by decide +kernel⟩, List.mem_of_getElem? (i := 31) (by decide +kernel), List.mem_of_getElem? (i := 175) (by decide +kernel), List.mem_of_getElem? (i := 176) (by decide +kernel)⟩
theorem lw_p4 : lw_okq (⟨"Tureenlist", "keptBoughtAt", "(I)I"⟩, 9) := ⟨⟨by decide +kernel, by decide +kernel⟩, List.mem_of_getElem? (i := 31) (by decide +kernel), List.mem_of_getElem? (i := 179) (by decide +kernel), List.mem_of_getElem? (i := 180) (by decide +kernel)⟩
theorem lw_p5 : lw_okq (⟨"Tureenlist", "holdsStandingSeenAt", "(I)I"⟩, 9) := ⟨⟨by decide +kernel, by decide +kernel⟩, List.mem_of_getElem? (i := 31) (by decide +kernel), List.mem_of_getElem? (i := 187) (by decide +kernel), List.mem_of_getElem? (i := 188) (by decide +kernel)⟩
theorem lw_p6 : lw_okq (⟨"Tureenlist", "keptSeenAt", "(I)I"⟩, 9) := ⟨⟨by decide +kernel, by decide +kernel⟩, List.mem_of_getElem? (i := 31) (by decide +kernel), List.mem_of_getElem? (i := 202) (by decide +kernel), List.mem_of_getElem? (i := 203) (by decide +kernel)⟩
theorem lw_p7 : lw_okq (⟨"Tureenlist", "takeStock", "(I)V"⟩, 9) := ⟨⟨by decide +kernel, by decide +kernel⟩, List.mem_of_getElem? (i := 31) (by decide +kernel), List.mem_of_getElem? (i := 209) (by decide +kernel), List.mem_of_getElem? (i := 210) (by decide +kernel)⟩
theorem lw_p8 : lw_okq (⟨"Tureenlist", "leftAt", "(ILTureenlist$Wish;)I"⟩, 9) := ⟨⟨by decide +kernel, by decide +kernel⟩, List.mem_of_getElem? (i := 31) (by decide +kernel), List.mem_of_getElem? (i := 213) (by decide +kernel), List.mem_of_getElem? (i := 214) (by decide +kernel)⟩
theorem lw_p9 : lw_okq (⟨"Tureenlist", "keptOfSeenAt", "(ILTureenlist$Wish;)I"⟩, 9) := ⟨⟨by decide +kernel, by decide +kernel⟩, List.mem_of_getElem? (i := 31) (by decide +kernel), List.mem_of_getElem? (i := 217) (by decide +kernel), List.mem_of_getElem? (i := 218) (by decide +kernel)⟩
theorem lw_p10 : lw_okq (⟨"Tureenlist", "guestsWithoutPart", "()I"⟩, 9) := ⟨⟨by decide +kernel, by decide +kernel⟩, List.mem_of_getElem? (i := 31) (by decide +kernel), List.mem_of_getElem? (i := 222) (by decide +kernel), List.mem_of_getElem? (i := 223) (by decide +kernel)⟩
theorem lw_p11 : lw_okq (⟨"Tureenlist", "giftsBy", "(LTureenlist$Guest;I)I"⟩, 9) := ⟨⟨by decide +kernel, by decide +kernel⟩, List.mem_of_getElem? (i := 31) (by decide +kernel), List.mem_of_getElem? (i := 227) (by decide +kernel), List.mem_of_getElem? (i := 228) (by decide +kernel)⟩
theorem lw_p12 : lw_okq (⟨"Tureenlist", "pledgedBy", "(LTureenlist$Guest;)I"⟩, 9) := ⟨⟨by decide +kernel, by decide +kernel⟩, List.mem_of_getElem? (i := 31) (by decide +kernel), List.mem_of_getElem? (i := 231) (by decide +kernel), List.mem_of_getElem? (i := 232) (by decide +kernel)⟩
theorem lw_p13 : lw_okq (⟨"Tureenlist", "fillBy", "(II)I"⟩, 9) := ⟨⟨by decide +kernel, by decide +kernel⟩, List.mem_of_getElem? (i := 31) (by decide +kernel), List.mem_of_getElem? (i := 239) (by decide +kernel), List.mem_of_getElem? (i := 240) (by decide +kernel)⟩
theorem lw_p14 : lw_okq (⟨"Tureenlist", "buyersAbove", "(II)I"⟩, 9) := ⟨⟨by decide +kernel, by decide +kernel⟩, List.mem_of_getElem? (i := 31) (by decide +kernel), List.mem_of_getElem? (i := 249) (by decide +kernel), List.mem_of_getElem? (i := 250) (by decide +kernel)⟩
theorem lw_p15 : lw_okq (⟨"Tureenlist", "stockWithin", "(II)I"⟩, 9) := ⟨⟨by decide +kernel, by decide +kernel⟩, List.mem_of_getElem? (i := 31) (by decide +kernel), List.mem_of_getElem? (i := 253) (by decide +kernel), List.mem_of_getElem? (i := 254) (by decide +kernel)⟩
def lw_privs_1 : List (MethodName × Nat) := [(⟨"Tureenlist", "wishNumbered", "(I)LTureenlist$Wish;"⟩, 9), (⟨"java/lang/Throwable", "fillInStackTrace", "(I)Ljava/lang/Throwable;"⟩, 6), (⟨"Tureenlist", "giftsOf", "(LTureenlist$Wish;I)I"⟩, 9), (⟨"Tureenlist", "isJoined", "(I)Z"⟩, 9), (⟨"Tureenlist", "keptBoughtAt", "(I)I"⟩, 9), (⟨"Tureenlist", "holdsStandingSeenAt", "(I)I"⟩, 9), (⟨"Tureenlist", "keptSeenAt", "(I)I"⟩, 9), (⟨"Tureenlist", "takeStock", "(I)V"⟩, 9), (⟨"Tureenlist", "leftAt", "(ILTureenlist$Wish;)I"⟩, 9), (⟨"Tureenlist", "keptOfSeenAt", "(ILTureenlist$Wish;)I"⟩, 9), (⟨"Tureenlist", "guestsWithoutPart", "()I"⟩, 9), (⟨"Tureenlist", "giftsBy", "(LTureenlist$Guest;I)I"⟩, 9), (⟨"Tureenlist", "pledgedBy", "(LTureenlist$Guest;)I"⟩, 9), (⟨"Tureenlist", "fillBy", "(II)I"⟩, 9), (⟨"Tureenlist", "buyersAbove", "(II)I"⟩, 9), (⟨"Tureenlist", "stockWithin", "(II)I"⟩, 9)]
theorem lw_r1 : ∀ q ∈ lw_privs_1, lw_okq q := List.forall_mem_cons.mpr ⟨lw_p0, List.forall_mem_cons.mpr ⟨lw_p1, List.forall_mem_cons.mpr ⟨lw_p2, List.forall_mem_cons.mpr ⟨lw_p3, List.forall_mem_cons.mpr ⟨lw_p4, List.forall_mem_cons.mpr ⟨lw_p5, List.forall_mem_cons.mpr ⟨lw_p6, List.forall_mem_cons.mpr ⟨lw_p7, List.forall_mem_cons.mpr ⟨lw_p8, List.forall_mem_cons.mpr ⟨lw_p9, List.forall_mem_cons.mpr ⟨lw_p10, List.forall_mem_cons.mpr ⟨lw_p11, List.forall_mem_cons.mpr ⟨lw_p12, List.forall_mem_cons.mpr ⟨lw_p13, List.forall_mem_cons.mpr ⟨lw_p14, List.forall_mem_cons.mpr ⟨lw_p15, fun _ h => absurd h List.not_mem_nil⟩⟩⟩⟩⟩⟩⟩⟩⟩⟩⟩⟩⟩⟩⟩⟩
theorem lw_p16 : lw_okq (⟨"Tureenlist", "allLeftAt", "(I)I"⟩, 9) := ⟨⟨by decide +kernel, by decide +kernel⟩, List.mem_of_getElem? (i := 31) (by decide +kernel), List.mem_of_getElem? (i := 260) (by decide +kernel), List.mem_of_getElem? (i := 261) (by decide +kernel)⟩
theorem lw_p17 : lw_okq (⟨"Tureenlist", "giftsNow", "(I)I"⟩, 9) := ⟨⟨by decide +kernel, by decide +kernel⟩, List.mem_of_getElem? (i := 31) (by decide +kernel), List.mem_of_getElem? (i := 274) (by decide +kernel), List.mem_of_getElem? (i := 275) (by decide +kernel)⟩
theorem lw_p18 : lw_okq (⟨"Tureenlist", "holdsStanding", "()I"⟩, 9) := ⟨⟨by decide +kernel, by decide +kernel⟩, List.mem_of_getElem? (i := 31) (by decide +kernel), List.mem_of_getElem? (i := 278) (by decide +kernel), List.mem_of_getElem? (i := 279) (by decide +kernel)⟩
theorem lw_p19 : lw_okq (⟨"Tureenlist", "tooManyWith", "(LTureenlist$Wish;I)I"⟩, 9) := ⟨⟨by decide +kernel, by decide +kernel⟩, List.mem_of_getElem? (i := 31) (by decide +kernel), List.mem_of_getElem? (i := 287) (by decide +kernel), List.mem_of_getElem? (i := 288) (by decide +kernel)⟩
theorem lw_p20 : lw_okq (⟨"Tureenlist", "noneTooManyIfAllJoined", "()Z"⟩, 9) := ⟨⟨by decide +kernel, by decide +kernel⟩, List.mem_of_getElem? (i := 31) (by decide +kernel), List.mem_of_getElem? (i := 301) (by decide +kernel), List.mem_of_getElem? (i := 302) (by decide +kernel)⟩
theorem lw_p21 : lw_okq (⟨"Tureenlist", "paidForKept", "()I"⟩, 9) := ⟨⟨by decide +kernel, by decide +kernel⟩, List.mem_of_getElem? (i := 31) (by decide +kernel), List.mem_of_getElem? (i := 305) (by decide +kernel), List.mem_of_getElem? (i := 306) (by decide +kernel)⟩
theorem lw_p22 : lw_okq (⟨"Tureenlist", "paidForKeptBy", "(LTureenlist$Guest;)I"⟩, 9) := ⟨⟨by decide +kernel, by decide +kernel⟩, List.mem_of_getElem? (i := 31) (by decide +kernel), List.mem_of_getElem? (i := 309) (by decide +kernel), List.mem_of_getElem? (i := 310) (by decide +kernel)⟩
theorem lw_p23 : lw_okq (⟨"Tureenlist", "pledgedNow", "()I"⟩, 9) := ⟨⟨by decide +kernel, by decide +kernel⟩, List.mem_of_getElem? (i := 31) (by decide +kernel), List.mem_of_getElem? (i := 313) (by decide +kernel), List.mem_of_getElem? (i := 314) (by decide +kernel)⟩
theorem lw_p24 : lw_okq (⟨"Tureenlist", "noPurseBelowZero", "()Z"⟩, 9) := ⟨⟨by decide +kernel, by decide +kernel⟩, List.mem_of_getElem? (i := 31) (by decide +kernel), List.mem_of_getElem? (i := 317) (by decide +kernel), List.mem_of_getElem? (i := 318) (by decide +kernel)⟩
theorem lw_p25 : lw_okq (⟨"Tureenlist", "noOrderedLacks", "()Z"⟩, 9) := ⟨⟨by decide +kernel, by decide +kernel⟩, List.mem_of_getElem? (i := 31) (by decide +kernel), List.mem_of_getElem? (i := 321) (by decide +kernel), List.mem_of_getElem? (i := 322) (by decide +kernel)⟩
theorem lw_p26 : lw_okq (⟨"Tureenlist", "joinedTillsSeeAlike", "()Z"⟩, 9) := ⟨⟨by decide +kernel, by decide +kernel⟩, List.mem_of_getElem? (i := 31) (by decide +kernel), List.mem_of_getElem? (i := 325) (by decide +kernel), List.mem_of_getElem? (i := 326) (by decide +kernel)⟩
theorem lw_p27 : lw_okq (⟨"Tureenlist", "guestNumbered", "(I)LTureenlist$Guest;"⟩, 9) := ⟨⟨by decide +kernel, by decide +kernel⟩, List.mem_of_getElem? (i := 31) (by decide +kernel), List.mem_of_getElem? (i := 341) (by decide +kernel), List.mem_of_getElem? (i := 342) (by decide +kernel)⟩
theorem lw_p28 : lw_okq (⟨"Tureenlist", "holdsStandingOf", "(LTureenlist$Guest;)I"⟩, 9) := ⟨⟨by decide +kernel, by decide +kernel⟩, List.mem_of_getElem? (i := 31) (by decide +kernel), List.mem_of_getElem? (i := 346) (by decide +kernel), List.mem_of_getElem? (i := 347) (by decide +kernel)⟩
theorem lw_p29 : lw_okq (⟨"Tureenlist", "digestTill", "(JI)J"⟩, 9) := ⟨⟨by decide +kernel, by decide +kernel⟩, List.mem_of_getElem? (i := 31) (by decide +kernel), List.mem_of_getElem? (i := 350) (by decide +kernel), List.mem_of_getElem? (i := 351) (by decide +kernel)⟩
theorem lw_p30 : lw_okq (⟨"Tureenlist", "addWish", "(IIZ)I"⟩, 9) := ⟨⟨by decide +kernel, by decide +kernel⟩, List.mem_of_getElem? (i := 31) (by decide +kernel), List.mem_of_getElem? (i := 441) (by decide +kernel), List.mem_of_getElem? (i := 442) (by decide +kernel)⟩
theorem lw_p31 : lw_okq (⟨"Tureenlist", "refuseIfCalledOff", "()V"⟩, 9) := ⟨⟨by decide +kernel, by decide +kernel⟩, List.mem_of_getElem? (i := 31) (by decide +kernel), List.mem_of_getElem? (i := 445) (by decide +kernel), List.mem_of_getElem? (i := 446) (by decide +kernel)⟩
def lw_privs_2 : List (MethodName × Nat) := [(⟨"Tureenlist", "allLeftAt", "(I)I"⟩, 9), (⟨"Tureenlist", "giftsNow", "(I)I"⟩, 9), (⟨"Tureenlist", "holdsStanding", "()I"⟩, 9), (⟨"Tureenlist", "tooManyWith", "(LTureenlist$Wish;I)I"⟩, 9), (⟨"Tureenlist", "noneTooManyIfAllJoined", "()Z"⟩, 9), (⟨"Tureenlist", "paidForKept", "()I"⟩, 9), (⟨"Tureenlist", "paidForKeptBy", "(LTureenlist$Guest;)I"⟩, 9), (⟨"Tureenlist", "pledgedNow", "()I"⟩, 9), (⟨"Tureenlist", "noPurseBelowZero", "()Z"⟩, 9), (⟨"Tureenlist", "noOrderedLacks", "()Z"⟩, 9), (⟨"Tureenlist", "joinedTillsSeeAlike", "()Z"⟩, 9), (⟨"Tureenlist", "guestNumbered", "(I)LTureenlist$Guest;"⟩, 9), (⟨"Tureenlist", "holdsStandingOf", "(LTureenlist$Guest;)I"⟩, 9), (⟨"Tureenlist", "digestTill", "(JI)J"⟩, 9), (⟨"Tureenlist", "addWish", "(IIZ)I"⟩, 9), (⟨"Tureenlist", "refuseIfCalledOff", "()V"⟩, 9)]
theorem lw_r2 : ∀ q ∈ lw_privs_2, lw_okq q := List.forall_mem_cons.mpr ⟨lw_p16, List.forall_mem_cons.mpr ⟨lw_p17, List.forall_mem_cons.mpr ⟨lw_p18, List.forall_mem_cons.mpr ⟨lw_p19, List.forall_mem_cons.mpr ⟨lw_p20, List.forall_mem_cons.mpr ⟨lw_p21, List.forall_mem_cons.mpr ⟨lw_p22, List.forall_mem_cons.mpr ⟨lw_p23, List.forall_mem_cons.mpr ⟨lw_p24, List.forall_mem_cons.mpr ⟨lw_p25, List.forall_mem_cons.mpr ⟨lw_p26, List.forall_mem_cons.mpr ⟨lw_p27, List.forall_mem_cons.mpr ⟨lw_p28, List.forall_mem_cons.mpr ⟨lw_p29, List.forall_mem_cons.mpr ⟨lw_p30, List.forall_mem_cons.mpr ⟨lw_p31, fun _ h => absurd h List.not_mem_nil⟩⟩⟩⟩⟩⟩⟩⟩⟩⟩⟩⟩⟩⟩⟩⟩
theorem lw_p32 : lw_okq (⟨"java/util/ArrayList", "add", "(Ljava/lang/Object;[Ljava/lang/Object;I)V"⟩, 3) := ⟨⟨by decide +kernel, by decide +kernel⟩, List.mem_of_getElem? (i := 382) (by decide +kernel), List.mem_of_getElem? (i := 505) (by decide +kernel), List.mem_of_getElem? (i := 506) (by decide +kernel)⟩
theorem lw_p33 : lw_okq (⟨"java/util/ArrayList", "grow", "()[Ljava/lang/Object;"⟩, 3) := ⟨⟨by decide +kernel, by decide +kernel⟩, List.mem_of_getElem? (i := 382) (by decide +kernel), List.mem_of_getElem? (i := 509) (by decide +kernel), List.mem_of_getElem? (i := 510) (by decide +kernel)⟩
theorem lw_p34 : lw_okq (⟨"java/util/ArrayList", "grow", "(I)[Ljava/lang/Object;"⟩, 3) := ⟨⟨by decide +kernel, by decide +kernel⟩, List.mem_of_getElem? (i := 382) (by decide +kernel), List.mem_of_getElem? (i := 513) (by decide +kernel), List.mem_of_getElem? (i := 514) (by decide +kernel)⟩
theorem lw_p35 : lw_okq (⟨"Tureenlist", "refuseIfSettled", "(LTureenlist$Wish;)V"⟩, 9) := ⟨⟨by decide +kernel, by decide +kernel⟩, List.mem_of_getElem? (i := 31) (by decide +kernel), List.mem_of_getElem? (i := 591) (by decide +kernel), List.mem_of_getElem? (i := 592) (by decide +kernel)⟩
theorem lw_p36 : lw_okq (⟨"Tureenlist", "sendPledgesBack", "(LTureenlist$Wish;I)I"⟩, 9) := ⟨⟨by decide +kernel, by decide +kernel⟩, List.mem_of_getElem? (i := 31) (by decide +kernel), List.mem_of_getElem? (i := 597) (by decide +kernel), List.mem_of_getElem? (i := 598) (by decide +kernel)⟩
theorem lw_p37 : lw_okq (⟨"Tureenlist", "payBack", "(LTureenlist$Guest;I)V"⟩, 9) := ⟨⟨by decide +kernel, by decide +kernel⟩, List.mem_of_getElem? (i := 31) (by decide +kernel), List.mem_of_getElem? (i := 602) (by decide +kernel), List.mem_of_getElem? (i := 603) (by decide +kernel)⟩
theorem lw_p38 : lw_okq (⟨"java/util/ArrayList", "fastRemove", "([Ljava/lang/Object;I)V"⟩, 3) := ⟨⟨by decide +kernel, by decide +kernel⟩, List.mem_of_getElem? (i := 382) (by decide +kernel), List.mem_of_getElem? (i := 610) (by decide +kernel), List.mem_of_getElem? (i := 611) (by decide +kernel)⟩
theorem lw_p39 : lw_okq (⟨"Tureenlist", "showAllDeeds", "()V"⟩, 9) := ⟨⟨by decide +kernel, by decide +kernel⟩, List.mem_of_getElem? (i := 31) (by decide +kernel), List.mem_of_getElem? (i := 629) (by decide +kernel), List.mem_of_getElem? (i := 630) (by decide +kernel)⟩
theorem lw_p40 : lw_okq (⟨"Tureenlist", "takeBackTooMany", "(LTureenlist$Wish;I)I"⟩, 9) := ⟨⟨by decide +kernel, by decide +kernel⟩, List.mem_of_getElem? (i := 31) (by decide +kernel), List.mem_of_getElem? (i := 642) (by decide +kernel), List.mem_of_getElem? (i := 643) (by decide +kernel)⟩
theorem lw_p41 : lw_okq (⟨"Tureenlist", "takeBackLast", "(LTureenlist$Wish;)V"⟩, 9) := ⟨⟨by decide +kernel, by decide +kernel⟩, List.mem_of_getElem? (i := 31) (by decide +kernel), List.mem_of_getElem? (i := 646) (by decide +kernel), List.mem_of_getElem? (i := 647) (by decide +kernel)⟩
theorem lw_p42 : lw_okq (⟨"Tureenlist", "endGift", "(LTureenlist$Gift;I)I"⟩, 9) := ⟨⟨by decide +kernel, by decide +kernel⟩, List.mem_of_getElem? (i := 31) (by decide +kernel), List.mem_of_getElem? (i := 654) (by decide +kernel), List.mem_of_getElem? (i := 655) (by decide +kernel)⟩
theorem lw_p43 : lw_okq (⟨"Tureenlist", "pay", "(LTureenlist$Guest;I)V"⟩, 9) := ⟨⟨by decide +kernel, by decide +kernel⟩, List.mem_of_getElem? (i := 31) (by decide +kernel), List.mem_of_getElem? (i := 728) (by decide +kernel), List.mem_of_getElem? (i := 729) (by decide +kernel)⟩
theorem lw_p44 : lw_okq (⟨"Tureenlist", "takePiece", "(ILTureenlist$Guest;LTureenlist$Wish;)V"⟩, 9) := ⟨⟨by decide +kernel, by decide +kernel⟩, List.mem_of_getElem? (i := 31) (by decide +kernel), List.mem_of_getElem? (i := 761) (by decide +kernel), List.mem_of_getElem? (i := 762) (by decide +kernel)⟩
theorem lw_p45 : lw_okq (⟨"Tureenlist", "servingHold", "(ILTureenlist$Guest;LTureenlist$Wish;)I"⟩, 9) := ⟨⟨by decide +kernel, by decide +kernel⟩, List.mem_of_getElem? (i := 31) (by decide +kernel), List.mem_of_getElem? (i := 765) (by decide +kernel), List.mem_of_getElem? (i := 766) (by decide +kernel)⟩
def lw_privs_3 : List (MethodName × Nat) := [(⟨"java/util/ArrayList", "add", "(Ljava/lang/Object;[Ljava/lang/Object;I)V"⟩, 3), (⟨"java/util/ArrayList", "grow", "()[Ljava/lang/Object;"⟩, 3), (⟨"java/util/ArrayList", "grow", "(I)[Ljava/lang/Object;"⟩, 3), (⟨"Tureenlist", "refuseIfSettled", "(LTureenlist$Wish;)V"⟩, 9), (⟨"Tureenlist", "sendPledgesBack", "(LTureenlist$Wish;I)I"⟩, 9), (⟨"Tureenlist", "payBack", "(LTureenlist$Guest;I)V"⟩, 9), (⟨"java/util/ArrayList", "fastRemove", "([Ljava/lang/Object;I)V"⟩, 3), (⟨"Tureenlist", "showAllDeeds", "()V"⟩, 9), (⟨"Tureenlist", "takeBackTooMany", "(LTureenlist$Wish;I)I"⟩, 9), (⟨"Tureenlist", "takeBackLast", "(LTureenlist$Wish;)V"⟩, 9), (⟨"Tureenlist", "endGift", "(LTureenlist$Gift;I)I"⟩, 9), (⟨"Tureenlist", "pay", "(LTureenlist$Guest;I)V"⟩, 9), (⟨"Tureenlist", "takePiece", "(ILTureenlist$Guest;LTureenlist$Wish;)V"⟩, 9), (⟨"Tureenlist", "servingHold", "(ILTureenlist$Guest;LTureenlist$Wish;)I"⟩, 9)]
theorem lw_r3 : ∀ q ∈ lw_privs_3, lw_okq q := List.forall_mem_cons.mpr ⟨lw_p32, List.forall_mem_cons.mpr ⟨lw_p33, List.forall_mem_cons.mpr ⟨lw_p34, List.forall_mem_cons.mpr ⟨lw_p35, List.forall_mem_cons.mpr ⟨lw_p36, List.forall_mem_cons.mpr ⟨lw_p37, List.forall_mem_cons.mpr ⟨lw_p38, List.forall_mem_cons.mpr ⟨lw_p39, List.forall_mem_cons.mpr ⟨lw_p40, List.forall_mem_cons.mpr ⟨lw_p41, List.forall_mem_cons.mpr ⟨lw_p42, List.forall_mem_cons.mpr ⟨lw_p43, List.forall_mem_cons.mpr ⟨lw_p44, List.forall_mem_cons.mpr ⟨lw_p45, fun _ h => absurd h List.not_mem_nil⟩⟩⟩⟩⟩⟩⟩⟩⟩⟩⟩⟩⟩⟩
def lw_privs : List (MethodName × Nat) := lw_privs_1 ++ (lw_privs_2 ++ (lw_privs_3))
def lw_tbl : List Cond := k2_sels lw_privs ++ tables_1
theorem lw_privs_ok : ∀ q ∈ lw_privs, lw_okq q := by
  show ∀ q ∈ lw_privs_1 ++ (lw_privs_2 ++ (lw_privs_3)), lw_okq q
  exact List.forall_mem_append.mpr ⟨lw_r1, List.forall_mem_append.mpr ⟨lw_r2, lw_r3⟩⟩
-- ===== end of PART A; then your names; then what follows =====
end
section
/-! ===== BEGIN words of one list among another's, by their places ===== -/
theorem goodIn_r {big : List Cond} (ws : List Cond) (ps : List Nat) (hp : ws = ps.filterMap (fun i => big[i]?)) (h : ws.all goodWord = true) : GoodIn big ws := by
  intro w hw
  have h1 := List.all_eq_true.mp h w hw
  rw [hp] at hw
  obtain ⟨i, -, hi⟩ := List.mem_filterMap.mp hw
  have hm : w ∈ big := by first | exact List.mem_of_getElem? hi | exact List.getElem?_mem hi
  exact ⟨hm, good_of_word h1⟩
theorem goodIn_app {big a b : List Cond} (ha : GoodIn big a) (hb : GoodIn big b) : GoodIn big (a ++ b) := fun w h => (List.mem_append.mp h).elim (ha w) (hb w)
theorem goodIn_ca {big a b : List Cond} {c : Cond} (ha : GoodIn big (c :: a)) (hb : GoodIn big b) : GoodIn big (c :: (a ++ b)) := fun w h => (List.mem_cons.mp h).elim (fun e => ha w (List.mem_cons.mpr (Or.inl e))) (fun h => (List.mem_append.mp h).elim (fun h => ha w (List.mem_cons.mpr (Or.inr h))) (hb w))
theorem goodIn_sub {big ws : List Cond} (hm : ∀ w ∈ ws, w ∈ big) (h : ws.all goodWord = true) : GoodIn big ws := fun w hw => ⟨hm w hw, good_of_word (List.all_eq_true.mp h w hw)⟩
/-! ===== END ===== -/

/-! ===== BEGIN exceptions that leave a method, and their catching by the caller (launches without stack traces) ===== -/
section VXA
/-! The laws vx_back, vx_callV, vx_callS, vx_callSW, vx_throw0, vx_throwS follow proofs of the library, with one case more: JvmDerived/Free/Laws.lean (Back.of_free), Shelf42/LK1.lean (callV, callS), Shelf/KitTraced.lean (throwNew0V, throwNewS). -/
/-- where a method has thrown q: the class by its name, the cell, what was written, the world -/
def vx_T (XC : String → State → State → Prop) (st : State) (q : Addr) (t : State) (mc ms : Nat) (free : Addr → Prop) : Prop :=
  ∃ (E : String) (ce : Cell) (L : List Loc), XC E st t ∧ t.heap[q]? = some ce ∧ ce.vm = .none ∧ st.vm.findClass E = some ce.cls ∧ st.WarmedH t.vm ∧ st.sameButNew ({ t with vm := st.vm } : State) L mc ms ∧ ∀ z ∈ L, free z.base
def vx_Q (Qc : Array Value → State → Outcome → State → Prop) (XC : String → State → State → Prop) (mc ms : Nat) (free : Addr → Prop) : Array Value → State → Outcome → State → Prop := fun a st o t =>
  (Qc a st o t ∧ ∃ L, FrameEnd st o t L mc ms ∧ ∀ q ∈ L, free q.base) ∨ ∃ q, o = .threw q ∧ vx_T XC st q t mc ms free
/-- a callee that returns or throws -/
def vx_Met (l : Launch) (y : MethodName) (ws : List Cond) (rm : Room) (Pc : Array Value → State → Prop) (Qc : Array Value → State → Outcome → State → Prop) (XC : String → State → State → Prop) (mc ms : Nat) (free : Addr → Prop) : Prop :=
  MetFree l y (headSpec ws rm) Pc (fun _ _ _ _ _ => True) (vx_Q Qc XC mc ms free)
def vx_Post (XC : String → State → State → Prop) (mc ms : Nat) (free : Addr → Prop) : Pt → Array Value → Addr → Pt → Prop := fun A a q B =>
  ∃ (g : JFrame) (mk : MethodId) (t : State) (L : List Loc) (E : String) (ce : Cell), B.U.heap = t.heap ∧ B.U.vm = t.vm ∧ XC E (A.U.calling g mk a) t ∧ t.heap[q]? = some ce ∧ ce.vm = .none ∧ A.U.vm.findClass E = some ce.cls ∧ B.locs = A.locs ++ L ∧ (∀ z ∈ L, free z.base) ∧ B.cells = A.cells + mc ∧ B.slots = A.slots + ms
def vx_Back (l : Launch) (R : Room) (p : Program) (e : Env) (below : List Frame) (s : State) (sargs : Array Value) (y : MethodName) (len W9 : Nat)
    (Pre : Pt → Array Value → Prop) (Post : Pt → Array Value → Option Value → Pt → Prop) (PostX : Pt → Array Value → Addr → Pt → Prop) : Prop :=
  ∀ (m : MethodId) (meth : Method) (c : Code) (A : Pt) (g : JFrame) (ig : Instr) (mk : MethodId) (a : Array Value),
    Stand p l e R s m sargs below meth c A.U A.locs A.cells A.slots → g.method = m → g.locals.size = c.maxLocals → decode c.code g.pc = .ok (ig, len) →
    2 * g.monitorRoom + (g.stack.map fun v => v.category).sum ≤ W9 → A.U.methodNamed? y = some mk → Pre A a →
    (∃ (v : Option Value) (B : Pt), Stand p l e R s m sargs below meth c B.U B.locs B.cells B.slots ∧ Post A a v B ∧
      Steps p.tables e below (doInvoke e (A.U.setTop g) [] mk a).1 (B.U.setTop { g with pc := g.pc + len, stack := v.toList ++ g.stack })) ∨
    (∃ (q : Addr) (B : Pt), Stand p l e R s m sargs below meth c B.U B.locs B.cells B.slots ∧ PostX A a q B ∧
      Steps p.tables e below (doInvoke e (A.U.setTop g) [] mk a).1 ((B.U.setTop g).pushFrame (.throwing q)))
section Payer
variable {l : Launch} {R : Room} {p : Program} {e : Env} {below : List Frame} {s : State} {sargs : Array Value} {y : MethodName} {len W9 : Nat}
theorem vx_back {ws : List Cond} {rm : Room} {Pc : Array Value → State → Prop} {Qc : Array Value → State → Outcome → State → Prop} {XC : String → State → State → Prop} {mc ms : Nat} {free : Addr → Prop} {bytes : ByteArray} {maxL : Nat} {ret : Option FieldType}
    (hM : vx_Met l y ws rm Pc Qc XC mc ms free) (hblind : FrameBlind Pc) (hrc : rm.cells = mc) (hrs : rm.slots = ms)
    (hframes : rm.frames + 1 ≤ R.frames) (hlocals : W9 + (maxL + 11) + rm.locals ≤ R.locals)
    (hws : ∀ w ∈ ws, ∀ a' U, s.WarmedH U.vm → w.before a' U = true) (hcode : Cond.code y bytes maxL ret ∈ ws) (hinit : ∀ a' U, s.WarmedH U.vm → (Cond.initialized y.cls).before a' U = true) :
    vx_Back l R p e below s sargs y len W9 (PreOf R mc ms Pc) (PostOf Qc mc ms free) (vx_Post XC mc ms free) := by
  intro m meth c A g ig mk a X hg hsize hdg hW hn hp
  have h1 : (headSpec ws rm).pre.before a A.U = true := atoms_intro fun w hw => hws w hw _ _ X.warmed
  have h2 : (Cond.code y bytes maxL ret).before a A.U = true := hws _ hcode _ _ X.warmed
  have h3 : (Cond.initialized y.cls).before a A.U = true := hinit _ _ X.warmed
  have h4 : A.cells + (headSpec ws rm).room.cells ≤ R.cells := by rw [show (headSpec ws rm).room.cells = mc from hrc]; exact hp.1
  have h5 : A.slots + (headSpec ws rm).room.slots ≤ R.slots := by rw [show (headSpec ws rm).room.slots = ms from hrs]; exact hp.2.1
  have hPc : Pc a (A.U.calling g mk a) := hblind _ _ _ _ hp.2.2
  obtain ⟨U, Ls, c0, s0⟩ := A
  dsimp only [Pt.U, Pt.locs, Pt.cells, Pt.slots] at h1 h2 h3 h4 h5 X hn hPc ⊢
  obtain ⟨methY, cY, hmY, hcY, -, hlY, -, -, -, -⟩ := Cond.code_spec hn h2
  obtain ⟨kY, hkY, -⟩ := className_of_methodNamed hn
  have hinitY : kY.init = .initialized := Cond.initialized_spec (findClass_of_methodNamed hn) hkY h3
  have h : At U g.method c below := by rw [hg]; exact X.here
  have hlocals9 : W9 + (maxL + 11) + (headSpec ws rm).room.locals ≤ R.locals := hlocals
  have happ : (headSpec ws rm).appliesLoose y e.platform (U.calling g mk a) = true :=
    Spec.appliesLoose_calling (g := g) h hdg hn hkY hinitY
      (X.room_calling (g := g) (R' := (headSpec ws rm).room) hsize hmY hcY hframes (by rw [hlY]; omega) h4 h5) h1
  obtain ⟨mid, hmid⟩ := h.above
  have hfr : (U.setTop g).frames = (.java g :: mid) ++ below := by rw [State.frames_setTop' g h.top, hmid]; rfl
  obtain ⟨o, s₂, hsteps, -, hend, hq⟩ := Steps.callFree hM p X.admits X.cas X.clock (acts := []) hfr happ hPc trivial
  have hq' : vx_Q Qc XC mc ms free a (U.calling g mk a) o s₂ := hq
  rw [State.frames_setTop' g h.top] at hend
  obtain ⟨g₀, hg0⟩ := Option.isSome_iff_exists.mp h.top
  obtain ⟨r, hr⟩ := State.topJava?_eq_some.mp hg0
  have hr' : (({ U with heap := s₂.heap, slotsUsed := s₂.slotsUsed } : State).setVm s₂.vm).frames = .java g₀ :: r := hr
  rcases hq' with ⟨hqc, L, hfe, hL⟩ | ⟨q, rfl, E, ce, L, hx, hce, hcv, hcl, hW₂, hsm, hL⟩
  · obtain ⟨⟨v, rfl⟩, hW₂, e2, q2, q3, q4, q5, q6⟩ := id hfe
    have e3 : s₂ = ({ (U.calling g mk a).setFrames s₂.frames with heap := s₂.heap, slotsUsed := s₂.slotsUsed } : State).setVm s₂.vm := by
      have : s₂ = ({ s₂ with vm := (U.calling g mk a).vm } : State).setVm s₂.vm := rfl
      rw [e2] at this
      exact this
    obtain ⟨c₂, i₂, len₂, hc₂, hd₂, hf₂⟩ := hend
    have hW' : U.WarmedH s₂.vm := hW₂
    have hcc : c₂ = c := by
      have h1 : s₂.code? g.method = U.code? g.method := by
        rw [State.code?_eq, State.code?_eq, hW'.alike.method?]
      exact Option.some.inj (hc₂.symm.trans (h1.trans h.code))
    subst hcc
    have hlen : len₂ = len := by rw [hdg] at hd₂; cases hd₂; rfl
    subst hlen
    have hs₂ : s₂ = (({ U with heap := s₂.heap, slotsUsed := s₂.slotsUsed } : State).setVm s₂.vm).setTop { g with pc := g.pc + len₂, stack := v.toList ++ g.stack } := by
      refine e3.trans ?_
      rw [hf₂, State.calling_eq h.top, State.setFrames_setFrames, State.setTop_of_frames _ hr', hr]
      rfl
    have hsame : U.sameButNew ({ U with heap := s₂.heap, slotsUsed := s₂.slotsUsed } : State) L mc ms := by
      refine ⟨?_, q2, q3, q4, q5, q6⟩
      obtain ⟨t, ht, -⟩ := State.frames_cons hr
      show ({ U with heap := s₂.heap, slotsUsed := s₂.slotsUsed } : State) = { U.setFrames U.frames with heap := s₂.heap, slotsUsed := s₂.slotsUsed }
      rw [State.setFrames_self ht]
    subst hg
    refine Or.inl ⟨v, ⟨(({ U with heap := s₂.heap, slotsUsed := s₂.slotsUsed } : State).setVm s₂.vm), Ls ++ L, c0 + mc, s0 + ms⟩,
      ⟨X.admits, X.cas, X.clock, X.frames, X.room, X.hears, X.method, X.code, (X.here.setHeapUsed s₂.heap s₂.slotsUsed).setVm hW'.alike, X.tail, State.WarmedH.trans X.warmed hW', X.limits, X.bytes, X.same.trans (hsame.setVm s.vm)⟩,
      ⟨g, mk, s₂, L, rfl, rfl, hqc, rfl, hL, rfl, rfl⟩, ?_⟩
    show Steps p.tables e below _ ((({ U with heap := s₂.heap, slotsUsed := s₂.slotsUsed } : State).setVm s₂.vm).setTop { g with pc := g.pc + len₂, stack := v.toList ++ g.stack })
    rw [← hs₂]
    exact hsteps
  · obtain ⟨e2, q2, q3, q4, q5, q6⟩ := id hsm
    have e3 : s₂ = ({ (U.calling g mk a).setFrames s₂.frames with heap := s₂.heap, slotsUsed := s₂.slotsUsed } : State).setVm s₂.vm := by
      have : s₂ = ({ s₂ with vm := (U.calling g mk a).vm } : State).setVm s₂.vm := rfl
      rw [e2] at this
      exact this
    have hf₂ : s₂.frames = .throwing q :: .java g :: U.frames.tail := hend
    have hW' : U.WarmedH s₂.vm := hW₂
    have hs₂ : s₂ = ((({ U with heap := s₂.heap, slotsUsed := s₂.slotsUsed } : State).setVm s₂.vm).setTop g).pushFrame (.throwing q) := by
      refine e3.trans ?_
      rw [hf₂, State.calling_eq h.top, State.setFrames_setFrames, State.pushFrame, State.frames_setTop _ hr', State.setTop_of_frames _ hr', State.setFrames_setFrames, hr]
      rfl
    have hsame : U.sameButNew ({ U with heap := s₂.heap, slotsUsed := s₂.slotsUsed } : State) L mc ms := by
      refine ⟨?_, q2, q3, q4, q5, q6⟩
      obtain ⟨t, ht, -⟩ := State.frames_cons hr
      show ({ U with heap := s₂.heap, slotsUsed := s₂.slotsUsed } : State) = { U.setFrames U.frames with heap := s₂.heap, slotsUsed := s₂.slotsUsed }
      rw [State.setFrames_self ht]
    subst hg
    refine Or.inr ⟨q, ⟨(({ U with heap := s₂.heap, slotsUsed := s₂.slotsUsed } : State).setVm s₂.vm), Ls ++ L, c0 + mc, s0 + ms⟩,
      ⟨X.admits, X.cas, X.clock, X.frames, X.room, X.hears, X.method, X.code, (X.here.setHeapUsed s₂.heap s₂.slotsUsed).setVm hW'.alike, X.tail, State.WarmedH.trans X.warmed hW', X.limits, X.bytes, X.same.trans (hsame.setVm s.vm)⟩,
      ⟨g, mk, s₂, L, E, ce, rfl, rfl, hx, hce, hcv, hcl, rfl, hL, rfl, rfl⟩, ?_⟩
    show Steps p.tables e below _ (((({ U with heap := s₂.heap, slotsUsed := s₂.slotsUsed } : State).setVm s₂.vm).setTop g).pushFrame (.throwing q))
    rw [← hs₂]
    exact hsteps
end Payer
section Calls
variable {p : Program} {l : Launch} {e : Env} {R : Room} {s : State} {m : MethodId} {args : Array Value} {below : List Frame} {meth : Method} {c : Code} {T : State} {locs : List Loc} {cells slots : Nat}
theorem vx_callV (X : Stand p l e R s m args below meth c T locs cells slots) (hexec : p.tables.exec = Jvm.exec) {own C : String} {index : Nat} {y : MethodName} {bytes : ByteArray} {maxL : Nat} {ret : Option FieldType}
    (hown : s.vm.findClass own = some m.cls) (hlink : (Cond.methodLink own index y).before args s = true) (hinst : (Cond.instanceMethod y).before args s = true) (hsel : (Cond.selects C y y).before args s = true)
    (hcode : (Cond.code y bytes maxL ret).before args s = true) (hy : y.cls ≠ "java/lang/invoke/MethodHandle" ∧ y.cls ≠ "java/lang/invoke/VarHandle")
    {W9 : Nat} {Pre : Pt → Array Value → Prop} {Post : Pt → Array Value → Option Value → Pt → Prop} {PostX : Pt → Array Value → Addr → Pt → Prop} (hK : vx_Back l R p e below s args y 3 W9 Pre Post PostX)
    {b : Addr} {cellB : Cell} (hcell : T.heap[b]? = some cellB) (hobj : cellB.vm.isStatics = false) (hcls : s.vm.findClass C = some cellB.cls)
    {g : JFrame} (hg : g.method = m) (hsize : g.locals.size = c.maxLocals) {argsL rest : List Value} (hlen : ∀ sig, parseMethodDescriptor y.desc = some sig → argsL.length = sig.parameters.length)
    (hstack : g.stack = argsL.reverse ++ .ref b :: rest) (hW : 2 * g.monitorRoom + (rest.map fun v => v.category).sum ≤ W9) (hdg : decode c.code g.pc = .ok (.invokevirtual index, 3))
    (hpre : ∀ vm₁, s.WarmedH vm₁ → Pre ⟨T.setVm vm₁, locs, cells, slots⟩ (Value.ref b :: argsL).toArray) :
    (∃ (v : Option Value) (vm₁ : Vm) (B : Pt), s.WarmedH vm₁ ∧ Stand p l e R s m args below meth c B.U B.locs B.cells B.slots ∧ Post ⟨T.setVm vm₁, locs, cells, slots⟩ (Value.ref b :: argsL).toArray v B ∧
      ∀ target, Steps p.tables e below (B.U.setTop { g with pc := g.pc + 3, stack := v.toList ++ rest }) target → Steps p.tables e below (T.setTop g) target) ∨
    (∃ (q : Addr) (vm₁ : Vm) (B : Pt), s.WarmedH vm₁ ∧ Stand p l e R s m args below meth c B.U B.locs B.cells B.slots ∧ PostX ⟨T.setVm vm₁, locs, cells, slots⟩ (Value.ref b :: argsL).toArray q B ∧
      Steps p.tables e below (T.setTop g) ((B.U.setTop { g with stack := rest }).pushFrame (.throwing q))) := by
  obtain ⟨mk, methM, hnamed, hmethM, hstM, habM⟩ := Cond.instanceMethod_spec hinst
  obtain ⟨methM', cM, hmethM', -, -, -, -, -, -, hsigM⟩ := Cond.code_spec hnamed hcode
  cases hmethM.symm.trans hmethM'
  obtain ⟨c2, r2, m2, q1, q2, q3, q4, kP, hkP, hkPi⟩ := Cond.selects_spec hsel
  cases hcls.symm.trans q1
  cases (State.methodFound?_of_named hnamed hy).symm.trans q2
  cases hnamed.symm.trans q3
  have hselP : selectMethod e.platform s.vm cellB.cls mk = .method mk := by rw [Launch.admits_selectMethod X.admits]; exact q4
  obtain ⟨vm₁, X₁, hstep₁⟩ := X.invokevirtual hexec hown hlink hnamed hmethM hstM hkP hkPi hy (a := b) (cell := cellB) hcell
    (fun z h => by rw [h] at hobj; cases hobj) hselP hmethM habM hkP hkPi (g := g) hg (argsL := argsL) (rest := rest) (hlen _ hsigM) hstack hdg
  rcases hK m meth c ⟨T.setVm vm₁, locs, cells, slots⟩ { g with stack := rest } (.invokevirtual index) mk (Value.ref b :: argsL).toArray X₁ hg hsize hdg hW (X₁.named hnamed) (hpre vm₁ X₁.warmed) with ⟨v, B, X', hpost, hsteps⟩ | ⟨q, B, X', hpost, hsteps⟩
  · exact Or.inl ⟨v, vm₁, B, X₁.warmed, X', hpost, fun target h => hstep₁ _ fun acts => by rw [doInvoke_state]; exact hsteps.trans h⟩
  · exact Or.inr ⟨q, vm₁, B, X₁.warmed, X', hpost, hstep₁ _ fun acts => by rw [doInvoke_state]; exact hsteps⟩
theorem vx_callS (X : Stand p l e R s m args below meth c T locs cells slots) (hexec : p.tables.exec = Jvm.exec) {own : String} {index : Nat} {y : MethodName} {bytes : ByteArray} {maxL : Nat} {ret : Option FieldType}
    (hown : s.vm.findClass own = some m.cls) (hlink : (Cond.methodLink own index y).before args s = true) (hstat : (Cond.static y).before args s = true) (hinit : (Cond.initialized y.cls).before args s = true)
    (hcode : (Cond.code y bytes maxL ret).before args s = true) (hy : y.cls ≠ "java/lang/invoke/MethodHandle" ∧ y.cls ≠ "java/lang/invoke/VarHandle")
    {W9 : Nat} {Pre : Pt → Array Value → Prop} {Post : Pt → Array Value → Option Value → Pt → Prop} {PostX : Pt → Array Value → Addr → Pt → Prop} (hK : vx_Back l R p e below s args y 3 W9 Pre Post PostX)
    {g : JFrame} (hg : g.method = m) (hsize : g.locals.size = c.maxLocals) {argsL rest : List Value} (hlen : ∀ sig, parseMethodDescriptor y.desc = some sig → argsL.length = sig.parameters.length)
    (hstack : g.stack = argsL.reverse ++ rest) (hW : 2 * g.monitorRoom + (rest.map fun v => v.category).sum ≤ W9) (hdg : decode c.code g.pc = .ok (.invokestatic index, 3))
    (hpre : ∀ vm₁, s.WarmedH vm₁ → Pre ⟨T.setVm vm₁, locs, cells, slots⟩ argsL.toArray) :
    (∃ (v : Option Value) (vm₁ : Vm) (B : Pt), s.WarmedH vm₁ ∧ Stand p l e R s m args below meth c B.U B.locs B.cells B.slots ∧ Post ⟨T.setVm vm₁, locs, cells, slots⟩ argsL.toArray v B ∧
      ∀ target, Steps p.tables e below (B.U.setTop { g with pc := g.pc + 3, stack := v.toList ++ rest }) target → Steps p.tables e below (T.setTop g) target) ∨
    (∃ (q : Addr) (vm₁ : Vm) (B : Pt), s.WarmedH vm₁ ∧ Stand p l e R s m args below meth c B.U B.locs B.cells B.slots ∧ PostX ⟨T.setVm vm₁, locs, cells, slots⟩ argsL.toArray q B ∧
      Steps p.tables e below (T.setTop g) ((B.U.setTop { g with stack := rest }).pushFrame (.throwing q))) := by
  obtain ⟨mk, hnamed⟩ := Cond.code_named hcode
  obtain ⟨methM, cM, hmethM, -, -, -, -, -, -, hsigM⟩ := Cond.code_spec hnamed hcode
  have hstatic : methM.isStatic = true := Cond.static_spec hnamed hmethM hstat
  obtain ⟨kP, hkP, -⟩ := className_of_methodNamed hnamed
  have hinitP : kP.init = .initialized := Cond.initialized_spec (findClass_of_methodNamed hnamed) hkP hinit
  obtain ⟨vm₁, X₁, hstep₁⟩ := X.invokestatic hexec hown hlink hnamed hmethM hstatic hkP hinitP hy (g := g) hg (argsL := argsL) (rest := rest) (hlen _ hsigM) hstack hdg
  rcases hK m meth c ⟨T.setVm vm₁, locs, cells, slots⟩ { g with stack := rest } (.invokestatic index) mk argsL.toArray X₁ hg hsize hdg hW (X₁.named hnamed) (hpre vm₁ X₁.warmed) with ⟨v, B, X', hpost, hsteps⟩ | ⟨q, B, X', hpost, hsteps⟩
  · exact Or.inl ⟨v, vm₁, B, X₁.warmed, X', hpost, fun target h => hstep₁ _ fun acts => by rw [doInvoke_state]; exact hsteps.trans h⟩
  · exact Or.inr ⟨q, vm₁, B, X₁.warmed, X', hpost, hstep₁ _ fun acts => by rw [doInvoke_state]; exact hsteps⟩
end Calls
theorem vx_cls {s : State} {T : State} {vm₁ : Vm} {E : String} {k : ClassId} (hW : s.WarmedH vm₁) (h : (T.setVm vm₁).vm.findClass E = some k) : s.vm.findClass E = some k := by
  have h1 : vm₁.findClass E = some k := h
  rw [hW.alike.findClass] at h1
  exact h1
/-- the method's frame g, with q thrown over it -/
def vx_W (p : Program) (l : Launch) (e : Env) (R : Room) (s : State) (m : MethodId) (args : Array Value) (below : List Frame) (meth : Method) (c : Code) (H : Heap) (locs : List Loc) (cells slots : Nat) (Q : State → Prop) (g : JFrame) (q : Addr) : Prop :=
  ∀ T : State, T.heap = H → Stand p l e R s m args below meth c T locs cells slots → ∃ t, Steps p.tables e below ((T.setTop g).pushFrame (.throwing q)) t ∧ Q t
def vx_Run (p : Program) (l : Launch) (e : Env) (R : Room) (s : State) (m : MethodId) (args : Array Value) (below : List Frame) (meth : Method) (c : Code) (H : Heap) (locs : List Loc) (cells slots mc ms : Nat) (g : JFrame) (rest : List Value) (Qa : State → Outcome → State → Prop) (XC : String → State → State → Prop) (free : Addr → Prop) : Prop :=
  ∀ T : State, T.heap = H → Stand p l e R s m args below meth c T locs cells slots →
    (∃ (v : Option Value) (st₀ t T' : State) (L : List Loc), st₀.heap = H ∧ Stand p l e R s m args below meth c T' (locs ++ L) (cells + mc) (slots + ms) ∧ (∀ q ∈ L, free q.base) ∧ T'.heap = t.heap ∧ T'.vm = t.vm ∧ Qa st₀ (.returned v) t ∧
      Goes p e below T g T' { g with pc := g.pc + 3, stack := v.toList ++ rest }) ∨
    (∃ (q : Addr) (st₀ t T' : State) (L : List Loc) (E : String) (ce : Cell), st₀.heap = H ∧ Stand p l e R s m args below meth c T' (locs ++ L) (cells + mc) (slots + ms) ∧ (∀ z ∈ L, free z.base) ∧ T'.heap = t.heap ∧ T'.vm = t.vm ∧ XC E st₀ t ∧ t.heap[q]? = some ce ∧ ce.vm = .none ∧ s.vm.findClass E = some ce.cls ∧
      Steps p.tables e below (T.setTop g) ((T'.setTop { g with stack := rest }).pushFrame (.throwing q)))
def vx_X {S : Type} (px : S → Prop) (B : String → S → State → Prop) (A : Nat → Prop) : String → State → State → Prop := fun E st t => ∃ u : S, px u ∧ B E u t ∧ va_F A st t
section Runs
variable {p : Program} {l : Launch} {e : Env} {R : Room} {s : State} {m : MethodId} {args : Array Value} {below : List Frame} {meth : Method} {c : Code} {H : Heap} {locs : List Loc} {cells slots : Nat}
variable {y : MethodName} {bytes cc : ByteArray} {maxL nL mc ms n index : Nat} {ret : Option FieldType} {ws : List Cond} {rm : Room} {Pc : Array Value → State → Prop} {Qc : Array Value → State → Outcome → State → Prop} {XC : String → State → State → Prop} {free : Addr → Prop} {Ts : List Cond} {own C : String} {b : Addr} {As rest : List Value} {g : JFrame}
theorem vx_callBack (cb : CallB R s args own index y bytes maxL ret ws rm mc ms n) (hM : vx_Met l y ws rm Pc Qc XC mc ms free) (hbl : FrameBlind Pc) : vx_Back l R p e below s args y 3 8 (PreOf R mc ms Pc) (PostOf Qc mc ms free) (vx_Post XC mc ms free) := by
  obtain ⟨hrc, hrs, hfr, hlo, hws, hcw, -, hini, -⟩ := cb
  exact vx_back (bytes := bytes) (maxL := maxL) (ret := ret) hM hbl hrc hrs hfr hlo hws hcw (fun a' U hW => word_at hW (Or.inl (by first | rfl | simp [Cond.onTables, Cond.keeps, Cond.steady])) hini)
theorem vx_runV (S : CallFix p m c cc nL s args Ts own) (hM : vx_Met l y ws rm Pc Qc XC mc ms free) (cw : CallW R s args own C index y bytes maxL ret ws rm mc ms n) (hp : PreV s H C b Pc As)
    (hg : g.method = m) (hn : As.length = n) (hsize : g.locals.size = nL) (hstack : g.stack = As.reverse ++ .ref b :: rest) (hW : 2 * g.monitorRoom + (rest.map fun v => v.category).sum ≤ 8) (hdg : decode cc g.pc = .ok (.invokevirtual index, 3)) (hf : cells + mc ≤ R.cells ∧ slots + ms ≤ R.slots) :
    vx_Run p l e R s m args below meth c H locs cells slots mc ms g rest (Qc (Value.ref b :: As).toArray) XC free := by
  have hK : vx_Back l R p e below s args y 3 8 (PreOf R mc ms Pc) (PostOf Qc mc ms free) (vx_Post XC mc ms free) := vx_callBack cw.1 hM hp.1
  obtain ⟨⟨-, -, -, -, -, -, hcode, -, hy, hlen, hl⟩, hin, hse⟩ := cw
  obtain ⟨hx, hb, hml, ho, -⟩ := S
  obtain ⟨-, ⟨cellB, hcB, hoB, hclB⟩, hPc⟩ := hp
  intro T hT X
  rcases vx_callV X hx (C := C) (bytes := bytes) (maxL := maxL) (ret := ret) ho hl hin hse hcode hy hK (by rw [hT]; exact hcB) hoB hclB hg (hsize.trans hml.symm) (argsL := As) (rest := rest) (fun sig h => hn.trans (hlen sig h)) hstack hW (by rw [hb]; exact hdg)
    (fun vm₁ hW₁ => ⟨hf.1, hf.2, hPc (T.setVm vm₁) hT hW₁⟩) with ⟨v, vm₁, ⟨U', l2, c2, s2⟩, hW₁, X', ⟨g', mk, t, L, e1, e2, hq, h1, hL, h2, h3⟩, st⟩ | ⟨q, vm₁, ⟨U', l2, c2, s2⟩, hW₁, X', ⟨g', mk, t, L, E, ce, e1, e2, hq, hce, hcv, hcl, h1, hL, h2, h3⟩, st⟩
  · dsimp only [Pt.U, Pt.locs, Pt.cells, Pt.slots] at X' e1 e2 h1 h2 h3 st
    subst h1; subst h2; subst h3
    exact Or.inl ⟨v, (T.setVm vm₁).calling g' mk (Value.ref b :: As).toArray, t, U', L, hT, X', hL, e1, e2, hq, st⟩
  · dsimp only [Pt.U, Pt.locs, Pt.cells, Pt.slots] at X' e1 e2 h1 h2 h3 st hcl
    subst h1; subst h2; subst h3
    exact Or.inr ⟨q, (T.setVm vm₁).calling g' mk (Value.ref b :: As).toArray, t, U', L, E, ce, hT, X', hL, e1, e2, hq, hce, hcv, vx_cls hW₁ hcl, st⟩
theorem vx_runS (S : CallFix p m c cc nL s args Ts own) (hM : vx_Met l y ws rm Pc Qc XC mc ms free) (cw : CallB R s args own index y bytes maxL ret ws rm mc ms n ∧ (Cond.static y).before args s = true) (hp : PreS s H Pc As)
    (hg : g.method = m) (hn : As.length = n) (hsize : g.locals.size = nL) (hstack : g.stack = As.reverse ++ rest) (hW : 2 * g.monitorRoom + (rest.map fun v => v.category).sum ≤ 8) (hdg : decode cc g.pc = .ok (.invokestatic index, 3)) (hf : cells + mc ≤ R.cells ∧ slots + ms ≤ R.slots) :
    vx_Run p l e R s m args below meth c H locs cells slots mc ms g rest (Qc As.toArray) XC free := by
  have hK : vx_Back l R p e below s args y 3 8 (PreOf R mc ms Pc) (PostOf Qc mc ms free) (vx_Post XC mc ms free) := vx_callBack cw.1 hM hp.1
  obtain ⟨⟨-, -, -, -, -, -, hcode, hini, hy, hlen, hl⟩, hstt⟩ := cw
  obtain ⟨hx, hb, hml, ho, -⟩ := S
  intro T hT X
  rcases vx_callS X hx (bytes := bytes) (maxL := maxL) (ret := ret) ho hl hstt hini hcode hy hK hg (hsize.trans hml.symm) (argsL := As) (rest := rest) (fun sig h => hn.trans (hlen sig h)) hstack hW (by rw [hb]; exact hdg)
    (fun vm₁ hW₁ => ⟨hf.1, hf.2, hp.2 (T.setVm vm₁) hT hW₁⟩) with ⟨v, vm₁, ⟨U', l2, c2, s2⟩, hW₁, X', ⟨g', mk, t, L, e1, e2, hq, h1, hL, h2, h3⟩, st⟩ | ⟨q, vm₁, ⟨U', l2, c2, s2⟩, hW₁, X', ⟨g', mk, t, L, E, ce, e1, e2, hq, hce, hcv, hcl, h1, hL, h2, h3⟩, st⟩
  · dsimp only [Pt.U, Pt.locs, Pt.cells, Pt.slots] at X' e1 e2 h1 h2 h3 st
    subst h1; subst h2; subst h3
    exact Or.inl ⟨v, (T.setVm vm₁).calling g' mk As.toArray, t, U', L, hT, X', hL, e1, e2, hq, st⟩
  · dsimp only [Pt.U, Pt.locs, Pt.cells, Pt.slots] at X' e1 e2 h1 h2 h3 st hcl
    subst h1; subst h2; subst h3
    exact Or.inr ⟨q, (T.setVm vm₁).calling g' mk As.toArray, t, U', L, E, ce, hT, X', hL, e1, e2, hq, hce, hcv, vx_cls hW₁ hcl, st⟩
end Runs
section Rows
variable {p : Program} {l : Launch} {e : Env} {R : Room} {s : State} {m : MethodId} {args : Array Value} {below : List Frame} {meth : Method} {c : Code} {H : Heap} {locs : List Loc} {cells slots : Nat} {Q : State → Prop}
variable {mc ms : Nat} {free : Addr → Prop} {A0 A1 : Nat → Prop} {H0 : Heap} {a : Array Value} {pc : Nat} {ls : Array Slot} {st0 rest : List Value}
theorem vx_keep {st₀ t T' : State} {L : List Loc} (h0 : st₀.heap = H) (e1 : T'.heap = t.heap) (hS : va_S A0 H0 H locs) (hA : ∀ q, q < H.size → A1 q → A0 q) (hf : ∀ q, free q → A0 q) (hL : ∀ q ∈ L, free q.base) (hF : va_F A1 st₀ t) :
    H.size ≤ T'.heap.size ∧ (∀ q : Nat, q < H.size → ¬ A1 q → T'.heap[q]? = H[q]?) ∧ va_S A0 H0 T'.heap (locs ++ L) := by
  obtain ⟨hz, hk⟩ := hF
  rw [h0] at hz hk
  exact ⟨by rw [e1]; exact hz, fun q h1 h2 => by rw [e1]; exact hk q h1 h2,
    ⟨Nat.le_trans hS.1 (by rw [e1]; exact hz), fun q h1 h2 => by rw [e1, hk q (Nat.lt_of_lt_of_le h1 hS.1) (fun z => h2 (hA q (Nat.lt_of_lt_of_le h1 hS.1) z))]; exact hS.2.1 q h1 h2, fun q hq => by
      rcases List.mem_append.mp hq with h | h
      · exact hS.2.2 q h
      · exact hf _ (hL q h)⟩⟩
theorem vx_calli {S SX : Type} {post : Int32 → S → Prop} {px : SX → Prop} {B : S → State → Prop} {BX : String → SX → State → Prop} {AX : Nat → Prop} (hr : vx_Run p l e R s m args below meth c H locs cells slots mc ms (F0 m pc ls st0) rest (va_Qi post B A1 a) (vx_X px BX AX) free) (hS : va_S A0 H0 H locs) (hA : ∀ q, q < H.size → A1 q → A0 q) (hf : ∀ q, free q → A0 q) (hAX : ∀ q, q < H.size → AX q → A0 q)
    (kx : ∀ (E : String) (ce : Cell) (q9 : Addr) (u : SX) (t : State) (H1 : Heap) (locs1 : List Loc), t.heap = H1 → s.vm.Alike t.vm → px u → BX E u t → H.size ≤ H1.size → (∀ q : Nat, q < H.size → ¬ AX q → H1[q]? = H[q]?) → va_S A0 H0 H1 locs1 → H1[q9]? = some ce → ce.vm = .none → s.vm.findClass E = some ce.cls → vx_W p l e R s m args below meth c H1 locs1 (cells + mc) (slots + ms) Q (F0 m pc ls rest) q9)
    (kk : ∀ (r : Int32) (u : S) (t : State) (H1 : Heap) (locs1 : List Loc), t.heap = H1 → s.vm.Alike t.vm → post r u → B u t → H.size ≤ H1.size → (∀ q : Nat, q < H.size → ¬ A1 q → H1[q]? = H[q]?) → va_S A0 H0 H1 locs1 → W p l e R s m args below meth c H1 locs1 (cells + mc) (slots + ms) Q (F0 m (pc + 3) ls (.int r :: rest))) : W p l e R s m args below meth c H locs cells slots Q (F0 m pc ls st0) := by
  intro T hT X
  rcases hr T hT X with ⟨v, st₀, t, T', L, h0, X', hL, e1, e2, ⟨⟨r, u, hv, hp, hb⟩, hF⟩, st⟩ | ⟨q, st₀, t, T', L, E, ce, h0, X', hL, e1, e2, ⟨u, hp, hb, hF⟩, hce, hcv, hcl, st⟩
  · cases hv
    obtain ⟨k1, k2, k3⟩ := vx_keep h0 e1 hS hA hf hL hF
    obtain ⟨t2, a1, b1⟩ := kk r u t T'.heap (locs ++ L) e1.symm (by rw [← e2]; exact X'.warmed.alike) hp hb k1 k2 k3 T' rfl X'
    exact ⟨t2, st t2 a1, b1⟩
  · obtain ⟨k1, k2, k3⟩ := vx_keep h0 e1 hS hAX hf hL hF
    obtain ⟨t2, a1, b1⟩ := kx E ce q u t T'.heap (locs ++ L) e1.symm (by rw [← e2]; exact X'.warmed.alike) hp hb k1 k2 k3 (by rw [e1]; exact hce) hcv hcl T' rfl X'
    exact ⟨t2, st.trans a1, b1⟩
theorem vx_calll {S SX : Type} {post : Int64 → S → Prop} {px : SX → Prop} {B : S → State → Prop} {BX : String → SX → State → Prop} {AX : Nat → Prop} (hr : vx_Run p l e R s m args below meth c H locs cells slots mc ms (F0 m pc ls st0) rest (va_Ql post B A1 a) (vx_X px BX AX) free) (hS : va_S A0 H0 H locs) (hA : ∀ q, q < H.size → A1 q → A0 q) (hf : ∀ q, free q → A0 q) (hAX : ∀ q, q < H.size → AX q → A0 q)
    (kx : ∀ (E : String) (ce : Cell) (q9 : Addr) (u : SX) (t : State) (H1 : Heap) (locs1 : List Loc), t.heap = H1 → s.vm.Alike t.vm → px u → BX E u t → H.size ≤ H1.size → (∀ q : Nat, q < H.size → ¬ AX q → H1[q]? = H[q]?) → va_S A0 H0 H1 locs1 → H1[q9]? = some ce → ce.vm = .none → s.vm.findClass E = some ce.cls → vx_W p l e R s m args below meth c H1 locs1 (cells + mc) (slots + ms) Q (F0 m pc ls rest) q9)
    (kk : ∀ (r : Int64) (u : S) (t : State) (H1 : Heap) (locs1 : List Loc), t.heap = H1 → s.vm.Alike t.vm → post r u → B u t → H.size ≤ H1.size → (∀ q : Nat, q < H.size → ¬ A1 q → H1[q]? = H[q]?) → va_S A0 H0 H1 locs1 → W p l e R s m args below meth c H1 locs1 (cells + mc) (slots + ms) Q (F0 m (pc + 3) ls (.long r :: rest))) : W p l e R s m args below meth c H locs cells slots Q (F0 m pc ls st0) := by
  intro T hT X
  rcases hr T hT X with ⟨v, st₀, t, T', L, h0, X', hL, e1, e2, ⟨⟨r, u, hv, hp, hb⟩, hF⟩, st⟩ | ⟨q, st₀, t, T', L, E, ce, h0, X', hL, e1, e2, ⟨u, hp, hb, hF⟩, hce, hcv, hcl, st⟩
  · cases hv
    obtain ⟨k1, k2, k3⟩ := vx_keep h0 e1 hS hA hf hL hF
    obtain ⟨t2, a1, b1⟩ := kk r u t T'.heap (locs ++ L) e1.symm (by rw [← e2]; exact X'.warmed.alike) hp hb k1 k2 k3 T' rfl X'
    exact ⟨t2, st t2 a1, b1⟩
  · obtain ⟨k1, k2, k3⟩ := vx_keep h0 e1 hS hAX hf hL hF
    obtain ⟨t2, a1, b1⟩ := kx E ce q u t T'.heap (locs ++ L) e1.symm (by rw [← e2]; exact X'.warmed.alike) hp hb k1 k2 k3 (by rw [e1]; exact hce) hcv hcl T' rfl X'
    exact ⟨t2, st.trans a1, b1⟩
theorem vx_callf {S SX : Type} {post : UInt32 → S → Prop} {px : SX → Prop} {B : S → State → Prop} {BX : String → SX → State → Prop} {AX : Nat → Prop} (hr : vx_Run p l e R s m args below meth c H locs cells slots mc ms (F0 m pc ls st0) rest (va_Qf post B A1 a) (vx_X px BX AX) free) (hS : va_S A0 H0 H locs) (hA : ∀ q, q < H.size → A1 q → A0 q) (hf : ∀ q, free q → A0 q) (hAX : ∀ q, q < H.size → AX q → A0 q)
    (kx : ∀ (E : String) (ce : Cell) (q9 : Addr) (u : SX) (t : State) (H1 : Heap) (locs1 : List Loc), t.heap = H1 → s.vm.Alike t.vm → px u → BX E u t → H.size ≤ H1.size → (∀ q : Nat, q < H.size → ¬ AX q → H1[q]? = H[q]?) → va_S A0 H0 H1 locs1 → H1[q9]? = some ce → ce.vm = .none → s.vm.findClass E = some ce.cls → vx_W p l e R s m args below meth c H1 locs1 (cells + mc) (slots + ms) Q (F0 m pc ls rest) q9)
    (kk : ∀ (r : UInt32) (u : S) (t : State) (H1 : Heap) (locs1 : List Loc), t.heap = H1 → s.vm.Alike t.vm → post r u → B u t → H.size ≤ H1.size → (∀ q : Nat, q < H.size → ¬ A1 q → H1[q]? = H[q]?) → va_S A0 H0 H1 locs1 → W p l e R s m args below meth c H1 locs1 (cells + mc) (slots + ms) Q (F0 m (pc + 3) ls (.float r :: rest))) : W p l e R s m args below meth c H locs cells slots Q (F0 m pc ls st0) := by
  intro T hT X
  rcases hr T hT X with ⟨v, st₀, t, T', L, h0, X', hL, e1, e2, ⟨⟨r, u, hv, hp, hb⟩, hF⟩, st⟩ | ⟨q, st₀, t, T', L, E, ce, h0, X', hL, e1, e2, ⟨u, hp, hb, hF⟩, hce, hcv, hcl, st⟩
  · cases hv
    obtain ⟨k1, k2, k3⟩ := vx_keep h0 e1 hS hA hf hL hF
    obtain ⟨t2, a1, b1⟩ := kk r u t T'.heap (locs ++ L) e1.symm (by rw [← e2]; exact X'.warmed.alike) hp hb k1 k2 k3 T' rfl X'
    exact ⟨t2, st t2 a1, b1⟩
  · obtain ⟨k1, k2, k3⟩ := vx_keep h0 e1 hS hAX hf hL hF
    obtain ⟨t2, a1, b1⟩ := kx E ce q u t T'.heap (locs ++ L) e1.symm (by rw [← e2]; exact X'.warmed.alike) hp hb k1 k2 k3 (by rw [e1]; exact hce) hcv hcl T' rfl X'
    exact ⟨t2, st.trans a1, b1⟩
theorem vx_calld {S SX : Type} {post : UInt64 → S → Prop} {px : SX → Prop} {B : S → State → Prop} {BX : String → SX → State → Prop} {AX : Nat → Prop} (hr : vx_Run p l e R s m args below meth c H locs cells slots mc ms (F0 m pc ls st0) rest (va_Qd post B A1 a) (vx_X px BX AX) free) (hS : va_S A0 H0 H locs) (hA : ∀ q, q < H.size → A1 q → A0 q) (hf : ∀ q, free q → A0 q) (hAX : ∀ q, q < H.size → AX q → A0 q)
    (kx : ∀ (E : String) (ce : Cell) (q9 : Addr) (u : SX) (t : State) (H1 : Heap) (locs1 : List Loc), t.heap = H1 → s.vm.Alike t.vm → px u → BX E u t → H.size ≤ H1.size → (∀ q : Nat, q < H.size → ¬ AX q → H1[q]? = H[q]?) → va_S A0 H0 H1 locs1 → H1[q9]? = some ce → ce.vm = .none → s.vm.findClass E = some ce.cls → vx_W p l e R s m args below meth c H1 locs1 (cells + mc) (slots + ms) Q (F0 m pc ls rest) q9)
    (kk : ∀ (r : UInt64) (u : S) (t : State) (H1 : Heap) (locs1 : List Loc), t.heap = H1 → s.vm.Alike t.vm → post r u → B u t → H.size ≤ H1.size → (∀ q : Nat, q < H.size → ¬ A1 q → H1[q]? = H[q]?) → va_S A0 H0 H1 locs1 → W p l e R s m args below meth c H1 locs1 (cells + mc) (slots + ms) Q (F0 m (pc + 3) ls (.double r :: rest))) : W p l e R s m args below meth c H locs cells slots Q (F0 m pc ls st0) := by
  intro T hT X
  rcases hr T hT X with ⟨v, st₀, t, T', L, h0, X', hL, e1, e2, ⟨⟨r, u, hv, hp, hb⟩, hF⟩, st⟩ | ⟨q, st₀, t, T', L, E, ce, h0, X', hL, e1, e2, ⟨u, hp, hb, hF⟩, hce, hcv, hcl, st⟩
  · cases hv
    obtain ⟨k1, k2, k3⟩ := vx_keep h0 e1 hS hA hf hL hF
    obtain ⟨t2, a1, b1⟩ := kk r u t T'.heap (locs ++ L) e1.symm (by rw [← e2]; exact X'.warmed.alike) hp hb k1 k2 k3 T' rfl X'
    exact ⟨t2, st t2 a1, b1⟩
  · obtain ⟨k1, k2, k3⟩ := vx_keep h0 e1 hS hAX hf hL hF
    obtain ⟨t2, a1, b1⟩ := kx E ce q u t T'.heap (locs ++ L) e1.symm (by rw [← e2]; exact X'.warmed.alike) hp hb k1 k2 k3 (by rw [e1]; exact hce) hcv hcl T' rfl X'
    exact ⟨t2, st.trans a1, b1⟩
theorem vx_callv {S SX : Type} {post : S → Prop} {px : SX → Prop} {B : S → State → Prop} {BX : String → SX → State → Prop} {AX : Nat → Prop} (hr : vx_Run p l e R s m args below meth c H locs cells slots mc ms (F0 m pc ls st0) rest (va_Qv post B A1 a) (vx_X px BX AX) free) (hS : va_S A0 H0 H locs) (hA : ∀ q, q < H.size → A1 q → A0 q) (hf : ∀ q, free q → A0 q) (hAX : ∀ q, q < H.size → AX q → A0 q)
    (kx : ∀ (E : String) (ce : Cell) (q9 : Addr) (u : SX) (t : State) (H1 : Heap) (locs1 : List Loc), t.heap = H1 → s.vm.Alike t.vm → px u → BX E u t → H.size ≤ H1.size → (∀ q : Nat, q < H.size → ¬ AX q → H1[q]? = H[q]?) → va_S A0 H0 H1 locs1 → H1[q9]? = some ce → ce.vm = .none → s.vm.findClass E = some ce.cls → vx_W p l e R s m args below meth c H1 locs1 (cells + mc) (slots + ms) Q (F0 m pc ls rest) q9)
    (kk : ∀ (u : S) (t : State) (H1 : Heap) (locs1 : List Loc), t.heap = H1 → s.vm.Alike t.vm → post u → B u t → H.size ≤ H1.size → (∀ q : Nat, q < H.size → ¬ A1 q → H1[q]? = H[q]?) → va_S A0 H0 H1 locs1 → W p l e R s m args below meth c H1 locs1 (cells + mc) (slots + ms) Q (F0 m (pc + 3) ls (rest))) : W p l e R s m args below meth c H locs cells slots Q (F0 m pc ls st0) := by
  intro T hT X
  rcases hr T hT X with ⟨v, st₀, t, T', L, h0, X', hL, e1, e2, ⟨⟨u, hv, hp, hb⟩, hF⟩, st⟩ | ⟨q, st₀, t, T', L, E, ce, h0, X', hL, e1, e2, ⟨u, hp, hb, hF⟩, hce, hcv, hcl, st⟩
  · cases hv
    obtain ⟨k1, k2, k3⟩ := vx_keep h0 e1 hS hA hf hL hF
    obtain ⟨t2, a1, b1⟩ := kk u t T'.heap (locs ++ L) e1.symm (by rw [← e2]; exact X'.warmed.alike) hp hb k1 k2 k3 T' rfl X'
    exact ⟨t2, st t2 a1, b1⟩
  · obtain ⟨k1, k2, k3⟩ := vx_keep h0 e1 hS hAX hf hL hF
    obtain ⟨t2, a1, b1⟩ := kx E ce q u t T'.heap (locs ++ L) e1.symm (by rw [← e2]; exact X'.warmed.alike) hp hb k1 k2 k3 (by rw [e1]; exact hce) hcv hcl T' rfl X'
    exact ⟨t2, st.trans a1, b1⟩
/-- caught by the row x of this method's table; the rows ahead don't take it -/
theorem vx_catch {own name : String} {E : String} {ce : Cell} {q : Addr} (hown : s.vm.findClass own = some m.cls) (pre : List ExceptionTableEntry) (x : ExceptionTableEntry) (suf : List ExceptionTableEntry) (hsplit : c.exceptionTable.toList = pre ++ x :: suf)
    (hpass : ∀ z ∈ pre, covers z pc = false ∨ (z.catchType ≠ 0 ∧ ∃ nm : String, (Cond.classLink own z.catchType nm).before args s = true ∧ va_Nc E nm s)) (hx : covers x pc = true) (h0 : x.catchType ≠ 0)
    (hlink : (Cond.classLink own x.catchType name).before args s = true) (hcast : (Cond.castable E name).before args s = true) (hcell : H[q]? = some ce) (hv : ce.vm = .none) (hcl : s.vm.findClass E = some ce.cls)
    (kk : W p l e R s m args below meth c H locs cells slots Q (F0 m x.handlerPc ls [.ref q])) : vx_W p l e R s m args below meth c H locs cells slots Q (F0 m pc ls rest) q := by
  intro T hT X
  have hpl : e.platform.magicAccessors = ({} : Platform).magicAccessors := by rw [X.admits.platform]
  obtain ⟨c3, c4, hc3, hc4, hasg⟩ := Cond.castable_spec hcast
  cases Option.some.inj (hc3.symm.trans hcl)
  obtain ⟨c5, hc5, hcl5⟩ := Cond.classLink_spec hown hlink e.platform hpl
  cases Option.some.inj (hc4.symm.trans hc5)
  obtain ⟨vm', X', st⟩ := X.thenCaughtThrough q (g := F0 m pc ls rest) rfl (Steps.refl _) (by rw [hT]; exact hcell) (by rw [hv]; rfl) (by obtain ⟨k9, h9, -⟩ := Vm.findClass_spec hcl; exact ⟨k9, h9⟩) pre x suf hsplit
    (fun z hz => by
      rcases hpass z hz with h | ⟨hz0, nm, hl1, hn1⟩
      · exact Or.inl h
      · obtain ⟨c6, hc6, hcl6⟩ := Cond.classLink_spec hown hl1 e.platform hpl
        obtain ⟨a8, b8, h1, h2, h3⟩ := hn1
        cases Option.some.inj (h1.symm.trans hcl)
        cases Option.some.inj (h2.symm.trans hc6)
        exact Or.inr ⟨hz0, _, hcl6, h3⟩) hx (Or.inr ⟨h0, c4, hcl5, hasg⟩)
  obtain ⟨t, a1, b1⟩ := kk (T.setVm vm') hT X'
  exact ⟨t, st.trans a1, b1⟩
end Rows
section Ends
variable {p : Program} {l : Launch} {e : Env} {R : Room} {s : State} {m : MethodId} {args : Array Value} {below : List Frame} {meth : Method} {c : Code} {H : Heap} {locs : List Loc} {cells slots : Nat} {Q : State → Prop}
variable {mc ms : Nat} {free : Addr → Prop} {A0 A1 : Nat → Prop} {H0 : Heap} {a : Array Value} {ls : Array Slot} {st0 rest : List Value}
variable {Qc : Array Value → State → Outcome → State → Prop} {XC : String → State → State → Prop}
/-- what a body that may throw owes at its end -/
def vx_MQ (below : List Frame) (Qc : Array Value → State → Outcome → State → Prop) (XC : String → State → State → Prop) (a : Array Value) (s : State) (mc ms : Nat) (free : Addr → Prop) : State → Prop := fun t =>
  ∃ o, t.status = .running ∧ Ended t below o ∧ vx_Q Qc XC mc ms free a s o t
theorem vx_ret {g : JFrame} {mc ms : Nat} (k : W p l e R s m args below meth c H locs cells slots (MQ below Qc args s mc ms free) g) : W p l e R s m args below meth c H locs cells slots (vx_MQ below Qc XC args s mc ms free) g := by
  intro T hT X
  obtain ⟨t, a1, o, b1, b2, b3, b4⟩ := k T hT X
  exact ⟨t, a1, o, b1, b2, Or.inl ⟨b3, b4⟩⟩
/-- not caught here: it goes on to the caller -/
theorem vx_widen {g : JFrame} {q : Addr} {k n : Nat} (h1 : cells ≤ k) (h2 : slots ≤ n) (kk : vx_W p l e R s m args below meth c H locs k n Q g q) : vx_W p l e R s m args below meth c H locs cells slots Q g q := fun T hT X => kk T hT (stand_widen X h1 h2)
theorem vx_out {pc : Nat} {E : String} {ce : Cell} {q : Addr} {mc ms : Nat} (hout : ∀ x ∈ c.exceptionTable.toList, covers x pc = false) (hlocks : meth.locks = false) (hcell : H[q]? = some ce) (hv : ce.vm = .none) (hcl : s.vm.findClass E = some ce.cls)
    (hx : ∀ t : State, t.heap = H → s.vm.Alike t.vm → XC E s t) (hf : ∀ z ∈ locs, free z.base) (hc : cells ≤ mc) (hs : slots ≤ ms) :
    vx_W p l e R s m args below meth c H locs cells slots (vx_MQ below Qc XC args s mc ms free) (F0 m pc ls rest) q := by
  intro T hT X
  obtain ⟨st1, hrun, hend, hW, hsm⟩ := X.leaveThrown q (g := F0 m pc ls rest) rfl rfl rfl hout hlocks
  have hcell9 : (T.setFrames (.throwing q :: below)).heap[q]? = some ce := by
    show T.heap[q]? = some ce
    rw [hT]; exact hcell
  exact ⟨_, st1, .threw q, hrun, hend, Or.inr ⟨q, rfl, E, ce, locs, hx _ hT hW.alike, hcell9, hv, hcl, hW, hsm.mono hc hs, hf⟩⟩
theorem vx_frame {U : State} {k n : Nat} (h : s.sameButNew ({ U with vm := s.vm } : State) locs k n) : s.heap.size ≤ U.heap.size ∧ ∀ q : Nat, q < s.heap.size → (∀ z ∈ locs, z.base ≠ q) → U.heap[q]? = s.heap[q]? := by
  obtain ⟨-, h2, -, -, -, h6⟩ := h
  refine ⟨h2, fun q hq hz => ?_⟩
  obtain ⟨c9, e1, e2, e3, e4⟩ := h6 q _ (Array.getElem?_eq_getElem hq)
  have hs : c9.slots = (s.heap[q]).slots := Array.ext_getElem? fun i => e4 i fun hm => hz _ hm rfl
  have h9 : c9 = s.heap[q] := by
    rw [hs] at e2
    exact e2
  have e5 : U.heap[q]? = some c9 := e1
  rw [e5, h9, Array.getElem?_eq_getElem hq]
/-- the words of a throw but the four that speak of the heap -/
def vx_no (w : Cond) : Bool := decide (w ≠ .isRef (.static Bundle.tN "UNASSIGNED_STACK" Bundle.steD)) && decide (w ≠ .isRef (.static Bundle.tN "SUPPRESSED_SENTINEL" Bundle.listD)) && decide (w ≠ .laysStatic Bundle.tN "UNASSIGNED_STACK" Bundle.steD) && decide (w ≠ .laysStatic Bundle.tN "SUPPRESSED_SENTINEL" Bundle.listD)
def vx_at0 (own : String) (ic : Nat) (X : String) (names : List String) : List Cond := (Bundle.ownAtoms0 own ic X names).filter vx_no
def vx_atS (own : String) (ic : Nat) (X : String) (names : List String) : List Cond := (Bundle.ownAtoms own ic X names).filter vx_no
/-- a word that the tables alone decide, or a good one -/
def vx_ot (w : Cond) : Bool := w.onTables || goodWord w
theorem vx_ot_at {args a' : Array Value} {s U : State} {w : Cond} (hW : s.WarmedH U.vm) (hvm : s.vm = U.vm) (hg : vx_ot w = true) (h : w.before args s = true) : w.before a' U = true := by
  simp only [vx_ot, Bool.or_eq_true] at hg
  rcases hg with hg | hg
  · exact va_tabs hg hvm h
  · exact word_at hW (good_of_word hg) h
/-- a list's words: the good ones out of the method's own list, the others by premises of their own -/
theorem vx_hat {args : Array Value} {s : State} {L B : List Cond} (h1 : ∀ w ∈ L.filter goodWord, w.before args s = true) (h2 : ∀ w ∈ L.filter (fun w => !goodWord w), w ∈ B) (h3 : ∀ w ∈ B, w.before args s = true) : ∀ w ∈ L, w.before args s = true := by
  intro w hw
  by_cases g : goodWord w = true
  · exact h1 w (List.mem_filter.mpr ⟨hw, g⟩)
  · refine h3 w (h2 w (List.mem_filter.mpr ⟨hw, ?_⟩))
    show (!goodWord w) = true
    cases hgw : goodWord w
    · rfl
    · exact absurd hgw g
theorem vx_c {args : Array Value} {s : State} {w : Cond} {B : List Cond} (h : w.before args s = true) (t : ∀ w ∈ B, w.before args s = true) : ∀ w' ∈ w :: B, w'.before args s = true := fun w' h' => (List.mem_cons.mp h').elim (fun e => by rw [e]; exact h) (t w')
theorem vx_n {args : Array Value} {s : State} : ∀ w ∈ ([] : List Cond), w.before args s = true := fun _ h => nomatch h
theorem vx_own {args : Array Value} {s : State} {L : List Cond} (h1 : ∀ w ∈ L.filter vx_no, w.before args s = true)
    (hU : (Cond.isRef (.static Bundle.tN "UNASSIGNED_STACK" Bundle.steD)).before args s = true) (hN : (Cond.isRef (.static Bundle.tN "SUPPRESSED_SENTINEL" Bundle.listD)).before args s = true)
    (lU : (Cond.laysStatic Bundle.tN "UNASSIGNED_STACK" Bundle.steD).before args s = true) (lN : (Cond.laysStatic Bundle.tN "SUPPRESSED_SENTINEL" Bundle.listD).before args s = true) : ∀ w ∈ L, w.before args s = true := by
  intro w hw
  by_cases e1 : w = .isRef (.static Bundle.tN "UNASSIGNED_STACK" Bundle.steD)
  · rw [e1]; exact hU
  · by_cases e2 : w = .isRef (.static Bundle.tN "SUPPRESSED_SENTINEL" Bundle.listD)
    · rw [e2]; exact hN
    · by_cases e3 : w = .laysStatic Bundle.tN "UNASSIGNED_STACK" Bundle.steD
      · rw [e3]; exact lU
      · by_cases e4 : w = .laysStatic Bundle.tN "SUPPRESSED_SENTINEL" Bundle.listD
        · rw [e4]; exact lN
        · exact h1 w (List.mem_filter.mpr ⟨hw, by unfold vx_no; rw [decide_eq_true e1, decide_eq_true e2, decide_eq_true e3, decide_eq_true e4]; rfl⟩)
/-- where a static field lies, its class's statics cell in H -/
def vx_L (C n d : String) (A : Nat → Prop) (U : State) (H : Heap) : Prop := ∃ (c : ClassId) (k : Class) (i : Nat) (f : Field) (a : Nat) (cell : Cell), U.vm.findClass C = some c ∧ U.fieldFound? C n d = some (c, k, i, f) ∧ f.isStatic = true ∧ k.statics = some a ∧ H[a]? = some cell ∧ cell.vm.isStatics = true ∧ cell.cls = c ∧ f.slot < cell.slots.size ∧ k.staticTypes[f.slot]? = some f.type ∧ ¬ A a
theorem vx_L.moved {C n d : String} {A : Nat → Prop} {u U : State} {H : Heap} (hvm : u.vm.Alike U.vm) (h : vx_L C n d A u H) : vx_L C n d A U H := by
  obtain ⟨c, k, i, f, a, cell, h1, h2, h3, h4, h5, h6, h7, h8, h9, h10⟩ := h
  obtain ⟨k', hi', he⟩ := State.fieldFound?_setVm hvm h2
  exact ⟨c, k', i, f, a, cell, by rw [hvm.findClass]; exact h1, hi', h3, by rw [he]; exact h4, h5, h6, h7, h8, by rw [he]; exact h9, h10⟩
theorem vx_L.kept {C n d : String} {A : Nat → Prop} {U : State} {H H1 : Heap} (h : vx_L C n d A U H) (hq : ∀ a : Nat, a < H.size → ¬ A a → H1[a]? = H[a]?) : vx_L C n d A U H1 := by
  obtain ⟨c, k, i, f, a, cell, h1, h2, h3, h4, h5, h6, h7, h8, h9, h10⟩ := h
  exact ⟨c, k, i, f, a, cell, h1, h2, h3, h4, by rw [hq a (Array.getElem?_eq_some_iff.mp h5).1 h10]; exact h5, h6, h7, h8, h9, h10⟩
theorem vx_L.narrow {C n d : String} {A B : Nat → Prop} {U : State} {H : Heap} (h : vx_L C n d A U H) (hAB : ∀ q, B q → A q) : vx_L C n d B U H := by
  obtain ⟨c, k, i, f, a, cell, h1, h2, h3, h4, h5, h6, h7, h8, h9, h10⟩ := h
  exact ⟨c, k, i, f, a, cell, h1, h2, h3, h4, h5, h6, h7, h8, h9, fun z => h10 (hAB _ z)⟩
theorem vx_L.word {C n d : String} {A : Nat → Prop} {s : State} {args : Array Value} (h : vx_L C n d A s s.heap) : (Cond.laysStatic C n d).before args s = true := by
  obtain ⟨c, k, i, f, a, cell, h1, h2, h3, h4, h5, h6, h7, h8, h9, -⟩ := h
  show (Cond.laysStatic C n d).holds args s none s [] = true
  exact Cond.laysStatic_of h1 h2 h3 h4 h5 h6 h7 h8 h9
/-- .. and what it holds: null or some reference -/
def vx_Zq (C n d : String) (A : Nat → Prop) (U : State) (H : Heap) : Prop := va_Zq C n d A U H ∧ vx_L C n d A U H
theorem vx_Zq.moved {C n d : String} {A : Nat → Prop} {u U : State} {H : Heap} (hvm : u.vm.Alike U.vm) (h : vx_Zq C n d A u H) : vx_Zq C n d A U H := ⟨va_Zq.moved hvm h.1, vx_L.moved hvm h.2⟩
theorem vx_Zq.kept {C n d : String} {A : Nat → Prop} {U : State} {H H1 : Heap} (h : vx_Zq C n d A U H) (hq : ∀ a : Nat, a < H.size → ¬ A a → H1[a]? = H[a]?) : vx_Zq C n d A U H1 := ⟨va_Zq.kept h.1 hq, vx_L.kept h.2 hq⟩
theorem vx_Zq.narrow {C n d : String} {A B : Nat → Prop} {U : State} {H : Heap} (h : vx_Zq C n d A U H) (hAB : ∀ q, B q → A q) : vx_Zq C n d B U H := ⟨va_Zq.narrow h.1 hAB, vx_L.narrow h.2 hAB⟩
theorem vx_Zqof {args : Array Value} {s : State} {C n d : String} {A : Nat → Prop} (hl : (Cond.laysStatic C n d).before args s = true) (hini : (Cond.initialized C).before args s = true) (h : (Cond.isRef (.static C n d)).before args s = true) (hA : ∀ a : Nat, a < s.heap.size → ¬ A a) : vx_Zq C n d A s s.heap := by
  refine ⟨va_Zqof hl hini h hA, ?_⟩
  obtain ⟨c, k, i, f, a, cell, h1, h2, h3, h4, h5, h6, h7, h8, h9⟩ := Cond.laysStatic_spec hl
  exact ⟨c, k, i, f, a, cell, h1, h2, h3, h4, h5, h6, h7, h8, h9, hA a (Array.getElem?_eq_some_iff.mp h5).1⟩
theorem vx_isRef {C n d : String} {v : Value} {A : Nat → Prop} {s : State} {args : Array Value} (h : va_Z C n d v A s s.heap) (hv : v.isRef = true) : (Cond.isRef (.static C n d)).before args s = true := by
  obtain ⟨cf, kf, fi, f, a, cell, h1, h2, h3, h4, h5, h6, h7, -⟩ := h
  have he : (Term.static C n d).eval args s none [] s = some v := by
    simp [Term.eval, State.fieldNamed?, h1, h2, h4, h5, h6, h7]
  simp only [Cond.before, Cond.holds, Cond.value, he]
  cases v <;> simp_all [Value.isRef]
theorem vx_isRefq {C n d : String} {A : Nat → Prop} {s : State} {args : Array Value} (h : va_Zq C n d A s s.heap) : (Cond.isRef (.static C n d)).before args s = true := by
  rcases h with h | ⟨t, h⟩
  · exact vx_isRef h rfl
  · exact vx_isRef h rfl
/-- the same frame, seen from here: as if the method were called anew in this heap -/
theorem vx_rebase {T : State} (X : Stand p l e R s m args below meth c T locs cells slots) {R' : Room} (hf : R'.frames ≤ R.frames) (hl : R'.locals ≤ R.locals) (hc : cells + R'.cells ≤ R.cells) (hs : slots + R'.slots ≤ R.slots) :
    Stand p l e R' ((T.setVm s.vm).setFrames (.invoking m args :: below)) m args below meth c T [] 0 0 := by
  have htop : (T.setVm s.vm).topJava?.isSome := X.here.top
  have hF : ((T.setVm s.vm).setFrames (.invoking m args :: below)).frames = .invoking m args :: below := State.frames_setFrames _ (State.cur_lt_of_top htop)
  obtain ⟨g₀, hg0⟩ := Option.isSome_iff_exists.mp htop
  obtain ⟨r, hr⟩ := State.topJava?_eq_some.mp hg0
  have hl9 : e.platform.stackLimits (T.setVm s.vm).me = e.platform.stackLimits s.me := X.limits
  have hb9 : (T.setVm s.vm).me.stackBytes = s.me.stackBytes := X.bytes
  refine ⟨X.admits, X.cas, X.clock, hF, ?_, X.hears, X.method, X.code, X.here, X.tail, X.warmed, ?_, ?_, ?_⟩
  · have h := X.room
    have hU : ((T.setVm s.vm).setFrames (.invoking m args :: below)).localsInUse = s.localsInUse := by
      rw [State.localsInUse_invoking hF (meth := meth) (c := c) X.method X.code, State.localsInUse_invoking X.frames X.method X.code]
    simp only [State.hasRoom, Bool.and_eq_true, decide_eq_true_eq] at h ⊢
    obtain ⟨⟨⟨⟨h1, h2, h3, h4, h5, h6⟩, h7⟩, h8⟩, h9⟩ := h
    rw [X.frames, List.length_cons] at h2 h3
    have q1 := X.heapSize
    have q2 := X.used
    simp only [hF, hU, List.length_cons, State.stackLimits_setFrames, State.stackBytes_setFrames, hl9, hb9]
    refine ⟨⟨⟨⟨by omega, by omega, by omega, by omega, by omega, h6⟩, ?_⟩, ?_⟩, X.book⟩
    · show T.heap.size + R'.cells ≤ e.platform.maxCells
      omega
    · show T.slotsUsed + R'.slots ≤ e.platform.maxSlots
      omega
  · rw [State.stackLimits_setFrames]; rfl
  · rw [State.stackBytes_setFrames]; rfl
  · refine ⟨?_, Nat.le_refl _, Nat.le_refl _, ?_, ?_, fun a c9 h9 => ⟨c9, h9, rfl, rfl, fun _ _ => rfl⟩⟩
    · obtain ⟨t, ht, -⟩ := State.frames_cons hr
      show T.setVm s.vm = { ((T.setVm s.vm).setFrames (.invoking m args :: below)).setFrames (T.setVm s.vm).frames with heap := T.heap, slotsUsed := T.slotsUsed }
      rw [State.setFrames_setFrames, State.setFrames_self ht]
      rfl
    · show T.slotsUsed = T.slotsUsed + ((T.heap.toList.drop T.heap.size).map (·.slots.size)).sum
      rw [List.drop_eq_nil_of_le (Nat.le_of_eq Array.length_toList)]
      rfl
    · show ((T.heap.toList.drop T.heap.size).map (·.slots.size)).sum ≤ 0
      rw [List.drop_eq_nil_of_le (Nat.le_of_eq Array.length_toList)]
      exact Nat.le_refl _
/-- 'throw new E()': new; dup; invokespecial; athrow -/
theorem vx_throw0 {cc : ByteArray} {pc : Nat} (hexec : p.tables.exec = Jvm.exec) (hb : c.code = cc) (hl : l.stackTraces = false) {own cls : String} {names : List String} {ik ic mc ms : Nat} {A : Nat → Prop}
    (hown : s.vm.findClass own = some m.cls) (hcls : Bundle.fit cls = true) (hnames : ∀ n ∈ names, Bundle.fit n = true)
    (hk : (Cond.classLink own ik cls).before args s = true) (hini : (Cond.initialized cls).before args s = true) (hat : ∀ w ∈ vx_at0 own ic cls names, w.before args s = true)
    (hgood : ∀ w ∈ Cond.classLink own ik cls :: Cond.initialized cls :: vx_at0 own ic cls names, vx_ot w = true)
    (hU : vx_Zq Bundle.tN "UNASSIGNED_STACK" Bundle.steD A s s.heap) (hN : vx_Zq Bundle.tN "SUPPRESSED_SENTINEL" Bundle.listD A s s.heap) (hS : va_S A s.heap H locs) (hsize : ls.size = c.maxLocals)
    (d0 : decode cc pc = .ok (.new ik, 3)) (d3 : decode cc (pc + 3) = .ok (.dup, 1)) (d4 : decode cc (pc + 4) = .ok (.invokespecial ic, 3)) (d7 : decode cc (pc + 7) = .ok (.athrow, 1))
    (hout : ∀ x ∈ c.exceptionTable.toList, covers x (pc + 7) = false)
    (hRframes : names.length + 3 < R.frames) (hRlocals : (rest.map fun v => v.category).sum + (13 * (names.length + 1) + 42) ≤ R.locals) (hRcells : cells + 1 ≤ R.cells) (hRslots : slots + 6 ≤ R.slots) (hlocks : meth.locks = false)
    (hx : ∀ t : State, s.vm.Alike t.vm → H.size ≤ t.heap.size → (∀ q : Nat, q < H.size → t.heap[q]? = H[q]?) → XC cls s t)
    (hf : ∀ z ∈ locs, free z.base) (hc : cells + 1 ≤ mc) (hs : slots + 6 ≤ ms) :
    W p l e R s m args below meth c H locs cells slots (vx_MQ below Qc XC args s mc ms free) (F0 m pc ls rest) := by
  intro T hT X
  have htr : e.platform.stackTraces = false := (show e.platform.stackTraces = l.stackTraces by rw [X.admits.platform]).trans hl
  have Y := vx_rebase X (R' := { frames := R.frames, locals := R.locals, cells := 1, slots := 6 }) (Nat.le_refl _) (Nat.le_refl _) hRcells hRslots
  obtain ⟨s', hA⟩ : ∃ z, z = (T.setVm s.vm).setFrames (.invoking m args :: below) := ⟨_, rfl⟩
  rw [← hA] at Y
  have hvm : s'.vm = s.vm := by rw [hA]; rfl
  have hhp : s'.heap = H := by rw [hA]; exact hT
  have hW0 : s.WarmedH s'.vm := by rw [hvm]; exact State.WarmedH.refl s
  have hat' : ∀ w ∈ vx_at0 own ic cls names, w.before args s' = true := fun w hw => vx_ot_at hW0 hvm.symm (hgood w (List.mem_cons_of_mem _ (List.mem_cons_of_mem _ hw))) (hat w hw)
  have hk' : (Cond.classLink own ik cls).before args s' = true := vx_ot_at hW0 hvm.symm (hgood _ List.mem_cons_self) hk
  have hini' : (Cond.initialized cls).before args s' = true := vx_ot_at hW0 hvm.symm (hgood _ (List.mem_cons_of_mem _ List.mem_cons_self)) hini
  have hU' : vx_Zq Bundle.tN "UNASSIGNED_STACK" Bundle.steD A s' s'.heap := by rw [hhp]; exact vx_Zq.moved hW0.alike (hU.kept hS.2.1)
  have hN' : vx_Zq Bundle.tN "SUPPRESSED_SENTINEL" Bundle.listD A s' s'.heap := by rw [hhp]; exact vx_Zq.moved hW0.alike (hN.kept hS.2.1)
  have h : ∀ w ∈ Bundle.ownAtoms0 own ic cls names, w.before args s' = true := vx_own hat' (vx_isRefq hU'.1) (vx_isRefq hN'.1) hU'.2.word hN'.2.word
  have hown' : s'.vm.findClass own = some m.cls := by rw [hvm]; exact hown
  have hins : (Cond.instantiable cls 6).before args s' = true := h _ (by simp [Bundle.ownAtoms0])
  obtain ⟨vm₁, cX, kX, hfX, hkX, -, -, X₁, st1⟩ := Y.newCold hexec (own := own) (C := cls) (index := ik) (n := 6) hown' hk' hins hini'
    (g := F0 m pc ls rest) rfl (by rw [hb]; exact d0) (Nat.le_refl _) (Nat.le_refl _)
  generalize hT1 : (T.setVm vm₁).pushCell { cls := cX, slots := kX.instanceTypes.map defaultValue, vm := .none } = T1 at X₁ st1
  have hcat : (Value.ref T.heap.size).category = 1 := rfl
  have hcellA : T1.heap[T.heap.size]? = some (freshCell cX kX) := by rw [← hT1]; exact State.heap_pushCell_size _ _
  have d3' : decode c.code (pc + 3) = .ok (.dup, 1) := by rw [hb]; exact d3
  obtain ⟨U, hsteps, hrun, hend, hW, hsame, ce, hce, hO⟩ := X₁.ctorThrow0 hexec htr (own := own) (cls := cls) (names := names) (ic := ic) hown' hcls hnames h (fun x hx => nomatch hx) hfX hkX hcellA (by rw [hhp, hT]; exact Nat.le_refl _)
    (g := { method := m, pc := pc + 4, locals := ls, stack := .ref T.heap.size :: .ref T.heap.size :: rest, locked := none }) rfl hsize rfl rfl (rest := rest) rfl
    (by rw [hb]; exact d4) (by rw [hb]; exact d7) hout hRframes (by simp only [List.map_cons, List.sum_cons, hcat]; omega) hlocks
  obtain ⟨f1, f2⟩ := vx_frame hsame
  rw [hhp] at f1 f2
  have hWs : s.WarmedH U.vm := State.WarmedH.trans hW0 hW
  have hcl : s.vm.findClass cls = some ce.cls := by
    have h9 := hO.cls
    rw [hvm] at h9
    exact h9
  have hall : s.sameButNew ({ U with vm := s.vm } : State) locs mc ms := by
    subst hA
    obtain ⟨e1, e2⟩ := hsame
    rw [State.setFrames_setFrames] at e1
    have h2 : (T.setVm s.vm).sameButNew ({ U with vm := s.vm } : State) [] (0 + 1) (0 + 6) := ⟨e1, e2⟩
    have h3 := X.same.trans h2
    rw [List.append_nil] at h3
    exact h3.mono hc hs
  refine ⟨U, ?_, .threw T.heap.size, hrun, hend, Or.inr ⟨T.heap.size, rfl, cls, ce, locs, hx U hWs.alike f1 (fun q hq => f2 q hq (fun z hz => nomatch hz)), hce, hO.vm, hcl, hWs, hall, hf⟩⟩
  refine st1 _ ?_
  show Steps p.tables e below (T1.setTop { method := m, pc := pc + 3, locals := ls, stack := .ref T.heap.size :: rest, locked := none }) _
  jvm_step X₁.here [X₁.here.top, hexec, d3', Value.category]
  exact hsteps
/-- 'throw new E("text")': new; dup; ldc; invokespecial; athrow -/
theorem vx_throwS {cc : ByteArray} {pc : Nat} (hexec : p.tables.exec = Jvm.exec) (hb : c.code = cc) (hl : l.stackTraces = false) {own cls text : String} {names : List String} {ik is ic mc ms sa : Nat} {A : Nat → Prop}
    (hown : s.vm.findClass own = some m.cls) (hcls : Bundle.fit cls = true) (hnames : ∀ n ∈ names, Bundle.fit n = true)
    (hk : (Cond.classLink own ik cls).before args s = true) (hini : (Cond.initialized cls).before args s = true) (hstr : vk_R own is text sa s) (hat : ∀ w ∈ vx_atS own ic cls names, w.before args s = true)
    (hgood : ∀ w ∈ Cond.classLink own ik cls :: Cond.initialized cls :: vx_atS own ic cls names, vx_ot w = true)
    (hU : vx_Zq Bundle.tN "UNASSIGNED_STACK" Bundle.steD A s s.heap) (hN : vx_Zq Bundle.tN "SUPPRESSED_SENTINEL" Bundle.listD A s s.heap) (hS : va_S A s.heap H locs) (hsize : ls.size = c.maxLocals)
    (d0 : decode cc pc = .ok (.new ik, 3)) (d3 : decode cc (pc + 3) = .ok (.dup, 1)) (d4 : decode cc (pc + 4) = .ok (.ldc is, 2)) (d6 : decode cc (pc + 6) = .ok (.invokespecial ic, 3)) (d9 : decode cc (pc + 9) = .ok (.athrow, 1))
    (hout : ∀ x ∈ c.exceptionTable.toList, covers x (pc + 9) = false)
    (hRframes : names.length + 3 < R.frames) (hRlocals : (rest.map fun v => v.category).sum + (13 * (names.length + 1) + 43) ≤ R.locals) (hRcells : cells + 1 ≤ R.cells) (hRslots : slots + 6 ≤ R.slots) (hlocks : meth.locks = false)
    (hx : ∀ t : State, s.vm.Alike t.vm → H.size ≤ t.heap.size → (∀ q : Nat, q < H.size → t.heap[q]? = H[q]?) → XC cls s t)
    (hf : ∀ z ∈ locs, free z.base) (hc : cells + 1 ≤ mc) (hs : slots + 6 ≤ ms) :
    W p l e R s m args below meth c H locs cells slots (vx_MQ below Qc XC args s mc ms free) (F0 m pc ls rest) := by
  intro T hT X
  have htr : e.platform.stackTraces = false := (show e.platform.stackTraces = l.stackTraces by rw [X.admits.platform]).trans hl
  have Y := vx_rebase X (R' := { frames := R.frames, locals := R.locals, cells := 1, slots := 6 }) (Nat.le_refl _) (Nat.le_refl _) hRcells hRslots
  obtain ⟨s', hA⟩ : ∃ z, z = (T.setVm s.vm).setFrames (.invoking m args :: below) := ⟨_, rfl⟩
  rw [← hA] at Y
  have hvm : s'.vm = s.vm := by rw [hA]; rfl
  have hhp : s'.heap = H := by rw [hA]; exact hT
  have hW0 : s.WarmedH s'.vm := by rw [hvm]; exact State.WarmedH.refl s
  have hat' : ∀ w ∈ vx_atS own ic cls names, w.before args s' = true := fun w hw => vx_ot_at hW0 hvm.symm (hgood w (List.mem_cons_of_mem _ (List.mem_cons_of_mem _ hw))) (hat w hw)
  have hk' : (Cond.classLink own ik cls).before args s' = true := vx_ot_at hW0 hvm.symm (hgood _ List.mem_cons_self) hk
  have hini' : (Cond.initialized cls).before args s' = true := vx_ot_at hW0 hvm.symm (hgood _ (List.mem_cons_of_mem _ List.mem_cons_self)) hini
  have hU' : vx_Zq Bundle.tN "UNASSIGNED_STACK" Bundle.steD A s' s'.heap := by rw [hhp]; exact vx_Zq.moved hW0.alike (hU.kept hS.2.1)
  have hN' : vx_Zq Bundle.tN "SUPPRESSED_SENTINEL" Bundle.listD A s' s'.heap := by rw [hhp]; exact vx_Zq.moved hW0.alike (hN.kept hS.2.1)
  have h : ∀ w ∈ Bundle.ownAtoms own ic cls names, w.before args s' = true := vx_own hat' (vx_isRefq hU'.1) (vx_isRefq hN'.1) hU'.2.word hN'.2.word
  have hown' : s'.vm.findClass own = some m.cls := by rw [hvm]; exact hown
  have hins : (Cond.instantiable cls 6).before args s' = true := h _ (by simp [Bundle.ownAtoms])
  obtain ⟨vm₁, cX, kX, hfX, hkX, -, -, X₁, st1⟩ := Y.newCold hexec (own := own) (C := cls) (index := ik) (n := 6) hown' hk' hins hini'
    (g := F0 m pc ls rest) rfl (by rw [hb]; exact d0) (Nat.le_refl _) (Nat.le_refl _)
  generalize hT1 : (T.setVm vm₁).pushCell { cls := cX, slots := kX.instanceTypes.map defaultValue, vm := .none } = T1 at X₁ st1
  have hcat : (Value.ref T.heap.size).category = 1 := rfl
  have hcellA : T1.heap[T.heap.size]? = some (freshCell cX kX) := by rw [← hT1]; exact State.heap_pushCell_size _ _
  have d3' : decode c.code (pc + 3) = .ok (.dup, 1) := by rw [hb]; exact d3
  have d4' : decode c.code (pc + 4) = .ok (.ldc is, 2) := by rw [hb]; exact d4
  have hstr' : vk_R own is text sa s' := vk_R.warm hW0 hstr
  obtain ⟨U, hsteps, hrun, hend, hW, hsame, ce, hce, hO⟩ := X₁.ctorThrowS hexec htr (own := own) (cls := cls) (names := names) (ic := ic) hown' hcls hnames h (fun x hx => nomatch hx) hfX hkX hcellA (by rw [hhp, hT]; exact Nat.le_refl _) (msg := .ref sa) rfl
    (g := { method := m, pc := pc + 6, locals := ls, stack := .ref sa :: .ref T.heap.size :: .ref T.heap.size :: rest, locked := none }) rfl hsize rfl rfl (rest := rest) rfl
    (by rw [hb]; exact d6) (by rw [hb]; exact d9) hout hRframes (by simp only [List.map_cons, List.sum_cons, hcat]; omega) hlocks
  obtain ⟨f1, f2⟩ := vx_frame hsame
  rw [hhp] at f1 f2
  have hWs : s.WarmedH U.vm := State.WarmedH.trans hW0 hW
  have hcl : s.vm.findClass cls = some ce.cls := by
    have h9 := hO.cls
    rw [hvm] at h9
    exact h9
  have hall : s.sameButNew ({ U with vm := s.vm } : State) locs mc ms := by
    subst hA
    obtain ⟨e1, e2⟩ := hsame
    rw [State.setFrames_setFrames] at e1
    have h2 : (T.setVm s.vm).sameButNew ({ U with vm := s.vm } : State) [] (0 + 1) (0 + 6) := ⟨e1, e2⟩
    have h3 := X.same.trans h2
    rw [List.append_nil] at h3
    exact h3.mono hc hs
  refine ⟨U, ?_, .threw T.heap.size, hrun, hend, Or.inr ⟨T.heap.size, rfl, cls, ce, locs, hx U hWs.alike f1 (fun q hq => f2 q hq (fun z hz => nomatch hz)), hce, hO.vm, hcl, hWs, hall, hf⟩⟩
  refine st1 _ ?_
  show Steps p.tables e below (T1.setTop { method := m, pc := pc + 3, locals := ls, stack := .ref T.heap.size :: rest, locked := none }) _
  jvm_step X₁.here [X₁.here.top, hexec, d3', Value.category]
  exact X₁.ldcString hexec (own := own) (text := text) (index := is) (a := sa) hown' hstr'.1 hstr'.2
    (g := { method := m, pc := pc + 4, locals := ls, stack := .ref T.heap.size :: .ref T.heap.size :: rest, locked := none }) rfl d4' _ hsteps
/-- 'throw new E("text")', the text by a wide index -/
theorem vx_throwSW {cc : ByteArray} {pc : Nat} (hexec : p.tables.exec = Jvm.exec) (hb : c.code = cc) (hl : l.stackTraces = false) {own cls text : String} {names : List String} {ik is ic mc ms sa : Nat} {A : Nat → Prop}
    (hown : s.vm.findClass own = some m.cls) (hcls : Bundle.fit cls = true) (hnames : ∀ n ∈ names, Bundle.fit n = true)
    (hk : (Cond.classLink own ik cls).before args s = true) (hini : (Cond.initialized cls).before args s = true) (hstr : vk_R own is text sa s) (hat : ∀ w ∈ vx_atS own ic cls names, w.before args s = true)
    (hgood : ∀ w ∈ Cond.classLink own ik cls :: Cond.initialized cls :: vx_atS own ic cls names, vx_ot w = true)
    (hU : vx_Zq Bundle.tN "UNASSIGNED_STACK" Bundle.steD A s s.heap) (hN : vx_Zq Bundle.tN "SUPPRESSED_SENTINEL" Bundle.listD A s s.heap) (hS : va_S A s.heap H locs) (hsize : ls.size = c.maxLocals)
    (d0 : decode cc pc = .ok (.new ik, 3)) (d3 : decode cc (pc + 3) = .ok (.dup, 1)) (d4 : decode cc (pc + 4) = .ok (.ldc_w is, 3)) (d7 : decode cc (pc + 7) = .ok (.invokespecial ic, 3)) (d10 : decode cc (pc + 10) = .ok (.athrow, 1))
    (hout : ∀ x ∈ c.exceptionTable.toList, covers x (pc + 10) = false)
    (hRframes : names.length + 3 < R.frames) (hRlocals : (rest.map fun v => v.category).sum + (13 * (names.length + 1) + 43) ≤ R.locals) (hRcells : cells + 1 ≤ R.cells) (hRslots : slots + 6 ≤ R.slots) (hlocks : meth.locks = false)
    (hx : ∀ t : State, s.vm.Alike t.vm → H.size ≤ t.heap.size → (∀ q : Nat, q < H.size → t.heap[q]? = H[q]?) → XC cls s t)
    (hf : ∀ z ∈ locs, free z.base) (hc : cells + 1 ≤ mc) (hs : slots + 6 ≤ ms) :
    W p l e R s m args below meth c H locs cells slots (vx_MQ below Qc XC args s mc ms free) (F0 m pc ls rest) := by
  intro T hT X
  have htr : e.platform.stackTraces = false := (show e.platform.stackTraces = l.stackTraces by rw [X.admits.platform]).trans hl
  have Y := vx_rebase X (R' := { frames := R.frames, locals := R.locals, cells := 1, slots := 6 }) (Nat.le_refl _) (Nat.le_refl _) hRcells hRslots
  obtain ⟨s', hA⟩ : ∃ z, z = (T.setVm s.vm).setFrames (.invoking m args :: below) := ⟨_, rfl⟩
  rw [← hA] at Y
  have hvm : s'.vm = s.vm := by rw [hA]; rfl
  have hhp : s'.heap = H := by rw [hA]; exact hT
  have hW0 : s.WarmedH s'.vm := by rw [hvm]; exact State.WarmedH.refl s
  have hat' : ∀ w ∈ vx_atS own ic cls names, w.before args s' = true := fun w hw => vx_ot_at hW0 hvm.symm (hgood w (List.mem_cons_of_mem _ (List.mem_cons_of_mem _ hw))) (hat w hw)
  have hk' : (Cond.classLink own ik cls).before args s' = true := vx_ot_at hW0 hvm.symm (hgood _ List.mem_cons_self) hk
  have hini' : (Cond.initialized cls).before args s' = true := vx_ot_at hW0 hvm.symm (hgood _ (List.mem_cons_of_mem _ List.mem_cons_self)) hini
  have hU' : vx_Zq Bundle.tN "UNASSIGNED_STACK" Bundle.steD A s' s'.heap := by rw [hhp]; exact vx_Zq.moved hW0.alike (hU.kept hS.2.1)
  have hN' : vx_Zq Bundle.tN "SUPPRESSED_SENTINEL" Bundle.listD A s' s'.heap := by rw [hhp]; exact vx_Zq.moved hW0.alike (hN.kept hS.2.1)
  have h : ∀ w ∈ Bundle.ownAtoms own ic cls names, w.before args s' = true := vx_own hat' (vx_isRefq hU'.1) (vx_isRefq hN'.1) hU'.2.word hN'.2.word
  have hown' : s'.vm.findClass own = some m.cls := by rw [hvm]; exact hown
  have hins : (Cond.instantiable cls 6).before args s' = true := h _ (by simp [Bundle.ownAtoms])
  obtain ⟨vm₁, cX, kX, hfX, hkX, -, -, X₁, st1⟩ := Y.newCold hexec (own := own) (C := cls) (index := ik) (n := 6) hown' hk' hins hini'
    (g := F0 m pc ls rest) rfl (by rw [hb]; exact d0) (Nat.le_refl _) (Nat.le_refl _)
  generalize hT1 : (T.setVm vm₁).pushCell { cls := cX, slots := kX.instanceTypes.map defaultValue, vm := .none } = T1 at X₁ st1
  have hcat : (Value.ref T.heap.size).category = 1 := rfl
  have hcellA : T1.heap[T.heap.size]? = some (freshCell cX kX) := by rw [← hT1]; exact State.heap_pushCell_size _ _
  have d3' : decode c.code (pc + 3) = .ok (.dup, 1) := by rw [hb]; exact d3
  have d4' : decode c.code (pc + 4) = .ok (.ldc_w is, 3) := by rw [hb]; exact d4
  have hstr' : vk_R own is text sa s' := vk_R.warm hW0 hstr
  obtain ⟨U, hsteps, hrun, hend, hW, hsame, ce, hce, hO⟩ := X₁.ctorThrowS hexec htr (own := own) (cls := cls) (names := names) (ic := ic) hown' hcls hnames h (fun x hx => nomatch hx) hfX hkX hcellA (by rw [hhp, hT]; exact Nat.le_refl _) (msg := .ref sa) rfl
    (g := { method := m, pc := pc + 7, locals := ls, stack := .ref sa :: .ref T.heap.size :: .ref T.heap.size :: rest, locked := none }) rfl hsize rfl rfl (rest := rest) rfl
    (by rw [hb]; exact d7) (by rw [hb]; exact d10) hout hRframes (by simp only [List.map_cons, List.sum_cons, hcat]; omega) hlocks
  obtain ⟨f1, f2⟩ := vx_frame hsame
  rw [hhp] at f1 f2
  have hWs : s.WarmedH U.vm := State.WarmedH.trans hW0 hW
  have hcl : s.vm.findClass cls = some ce.cls := by
    have h9 := hO.cls
    rw [hvm] at h9
    exact h9
  have hall : s.sameButNew ({ U with vm := s.vm } : State) locs mc ms := by
    subst hA
    obtain ⟨e1, e2⟩ := hsame
    rw [State.setFrames_setFrames] at e1
    have h2 : (T.setVm s.vm).sameButNew ({ U with vm := s.vm } : State) [] (0 + 1) (0 + 6) := ⟨e1, e2⟩
    have h3 := X.same.trans h2
    rw [List.append_nil] at h3
    exact h3.mono hc hs
  refine ⟨U, ?_, .threw T.heap.size, hrun, hend, Or.inr ⟨T.heap.size, rfl, cls, ce, locs, hx U hWs.alike f1 (fun q hq => f2 q hq (fun z hz => nomatch hz)), hce, hO.vm, hcl, hWs, hall, hf⟩⟩
  refine st1 _ ?_
  show Steps p.tables e below (T1.setTop { method := m, pc := pc + 3, locals := ls, stack := .ref T.heap.size :: rest, locked := none }) _
  jvm_step X₁.here [X₁.here.top, hexec, d3', Value.category]
  exact X₁.ldcStringW hexec (own := own) (text := text) (index := is) (a := sa) hown' hstr'.1 hstr'.2
    (g := { method := m, pc := pc + 4, locals := ls, stack := .ref T.heap.size :: .ref T.heap.size :: rest, locked := none }) rfl d4' _ hsteps
end Ends
section Bodies
variable {l : Launch}
theorem vx_ofW {y : MethodName} {ws ws' : List Cond} {rm : Room} {Pc : Array Value → State → Prop} {Qc : Array Value → State → Outcome → State → Prop} {XC : String → State → State → Prop} {mc ms : Nat} {free : Addr → Prop} {cc : ByteArray} {maxL : Nat} {ret : Option FieldType}
    (hy : plainName y.cls = true) (hw : ws = Cond.code y cc maxL ret :: ws')
    (body : ∀ p e s m args below meth c s₁, BodyLoose p l y (headSpec ws rm) cc maxL ret e s m args below meth c s₁ → c.maxLocals = maxL → (∀ x ∈ c.exceptionTable.toList, False) → Pc args s →
      W p l e (headSpec ws rm).room s m args below meth c s.heap [] 0 0 (vx_MQ below Qc XC args s mc ms free) (entryFrame m args maxL)) : vx_Met l y ws rm Pc Qc XC mc ms free := by
  refine MetFree.of_bodyS (code := cc) (maxLocals := maxL) (ret := ret) hy ?_ ?_
  · intro args s m h hn
    obtain ⟨meth, c, h1, h2, h3, h4, h5, h6, -, -⟩ := Cond.code_spec hn (atoms_spec (ws := ws) h _ (by rw [hw]; exact List.mem_cons_self))
    exact ⟨meth, c, h1, h2, h3, h4, h5, h6⟩
  · intro p e s m args below meth c s₁ B hml hP _
    have hh0 : s₁.heap = s.heap := by rw [B.state]; rfl
    have ht : ∀ x ∈ c.exceptionTable.toList, False := by
      obtain ⟨meth9, c9, h1, h2, -, -, -, -, h7, -⟩ := Cond.code_spec B.named (atoms_spec (ws := ws) B.pre _ (by rw [hw]; exact List.mem_cons_self))
      cases Option.some.inj (h1.symm.trans B.method)
      cases Option.some.inj (h2.symm.trans (Stand.of_body B).code)
      intro x hx
      rw [Array.isEmpty_iff.mp h7] at hx
      cases hx
    obtain ⟨t, a1, o, b1, b2, b3⟩ := body p e s m args below meth c s₁ B hml ht hP s₁ hh0 (Stand.of_body B)
    exact ⟨t, o, a1, b1, b2, b3⟩
/-- the table of a body with handlers -/
theorem vx_table {p : Program} {x y : MethodName} {S : Spec} {cc bytes : ByteArray} {maxL maxL' : Nat} {ret ret' : Option FieldType} {e : Env} {s s₁ : State} {m : MethodId} {args : Array Value} {below : List Frame} {meth : Method} {c : Code} {hh : List (Nat × Nat × Nat × Nat)}
    (B : BodyLoose p l y S cc maxL ret e s m args below meth c s₁) (h : (Cond.codeWith y bytes maxL' ret' hh).before args s = true) : c.exceptionTable.toList = tableOf hh := by
  obtain ⟨m9, meth9, c9, hn9, h1, h2, -, -, h6, -⟩ := Cond.codeWith_spec h
  cases Option.some.inj (hn9.symm.trans B.named)
  cases Option.some.inj (h1.symm.trans B.method)
  cases Option.some.inj (h2.symm.trans (Stand.of_body B).code)
  rw [← h6, table_eq]
end Bodies
end VXA
/-! ===== END ===== -/
/-! ===== BEGIN a static call of a method with an exception table ===== -/
section VXS
variable {p : Program} {l : Launch} {e : Env} {R : Room} {s : State} {m : MethodId} {args : Array Value} {below : List Frame} {meth : Method} {c : Code} {T : State} {H : Heap} {locs : List Loc} {cells slots : Nat}
abbrev vx_CSW (R : Room) (s : State) (args : Array Value) (own : String) (index : Nat) (y : MethodName) (bytes : ByteArray) (maxL : Nat) (ret : Option FieldType) (hh : List (Nat × Nat × Nat × Nat)) (ws : List Cond) (rm : Room) (mc ms n : Nat) : Prop :=
  (rm.cells = mc ∧ rm.slots = ms ∧ rm.frames + 1 ≤ R.frames ∧ 8 + (maxL + 11) + rm.locals ≤ R.locals ∧ (∀ w ∈ ws, ∀ (a' : Array Value) (U : State), s.WarmedH U.vm → w.before a' U = true) ∧ Cond.codeWith y bytes maxL ret hh ∈ ws) ∧
  (Cond.codeWith y bytes maxL ret hh).before args s = true ∧ (Cond.initialized y.cls).before args s = true ∧ (y.cls ≠ "java/lang/invoke/MethodHandle" ∧ y.cls ≠ "java/lang/invoke/VarHandle") ∧
  (∀ sig, parseMethodDescriptor y.desc = some sig → n = sig.parameters.length) ∧ (Cond.methodLink own index y).before args s = true ∧ (Cond.static y).before args s = true
theorem vx_cwSW {own : String} {index maxL mc ms : Nat} {y : MethodName} {bytes : ByteArray} {ret : Option FieldType} {hh : List (Nat × Nat × Nat × Nat)} {Ts ws ws' : List Cond} {rm : Room} (n : Nat) (ht : ∀ w ∈ Ts, w.before args s = true) (hT : GoodIn Ts (va_wsS own index y ws)) (hw : ws = Cond.codeWith y bytes maxL ret hh :: ws') (hrc : rm.cells = mc) (hrs : rm.slots = ms)
    (hd : y.cls ≠ "java/lang/invoke/MethodHandle" ∧ y.cls ≠ "java/lang/invoke/VarHandle" ∧ (parseMethodDescriptor y.desc).map (fun d => d.parameters.length) = some n) (hR : rm.frames + 1 ≤ R.frames ∧ 8 + (maxL + 11) + rm.locals ≤ R.locals) :
    vx_CSW R s args own index y bytes maxL ret hh ws rm mc ms n := by
  have ok : ∀ w ∈ va_wsS own index y ws, w.before args s = true := fun w h => ht w (hT w h).1
  have hG : GoodIn Ts ws := fun w h => hT w (by unfold va_wsS; exact List.mem_append_right _ h)
  have hc : Cond.codeWith y bytes maxL ret hh ∈ ws := by rw [hw]; exact List.mem_cons_self
  refine ⟨⟨hrc, hrs, hR.1, hR.2, pay_in ht hG, hc⟩, ht _ (hG _ hc).1, ok _ (by simp [va_wsS]), ⟨hd.1, hd.2.1⟩, fun sig h => ?_, ok _ (by simp [va_wsS]), ok _ (by simp [va_wsS])⟩
  have h2 := hd.2.2
  rw [h] at h2
  exact (Option.some.inj h2).symm
theorem vx_callSW (X : Stand p l e R s m args below meth c T locs cells slots) (hexec : p.tables.exec = Jvm.exec) {own : String} {index : Nat} {y : MethodName} {bytes : ByteArray} {maxL : Nat} {ret : Option FieldType} {hh : List (Nat × Nat × Nat × Nat)}
    (hown : s.vm.findClass own = some m.cls) (hlink : (Cond.methodLink own index y).before args s = true) (hstat : (Cond.static y).before args s = true) (hinit : (Cond.initialized y.cls).before args s = true)
    (hcode : (Cond.codeWith y bytes maxL ret hh).before args s = true) (hy : y.cls ≠ "java/lang/invoke/MethodHandle" ∧ y.cls ≠ "java/lang/invoke/VarHandle")
    {W9 : Nat} {Pre : Pt → Array Value → Prop} {Post : Pt → Array Value → Option Value → Pt → Prop} (hK : Back l R p e below s args y 3 W9 Pre Post)
    {g : JFrame} (hg : g.method = m) (hsize : g.locals.size = c.maxLocals) {argsL rest : List Value} (hlen : ∀ sig, parseMethodDescriptor y.desc = some sig → argsL.length = sig.parameters.length)
    (hstack : g.stack = argsL.reverse ++ rest) (hW : 2 * g.monitorRoom + (rest.map fun v => v.category).sum ≤ W9) (hdg : decode c.code g.pc = .ok (.invokestatic index, 3))
    (hpre : ∀ vm₁, s.WarmedH vm₁ → Pre ⟨T.setVm vm₁, locs, cells, slots⟩ argsL.toArray) :
    ∃ (v : Option Value) (vm₁ : Vm) (B : Pt), s.WarmedH vm₁ ∧ Stand p l e R s m args below meth c B.U B.locs B.cells B.slots ∧ Post ⟨T.setVm vm₁, locs, cells, slots⟩ argsL.toArray v B ∧
      ∀ target, Steps p.tables e below (B.U.setTop { g with pc := g.pc + 3, stack := v.toList ++ rest }) target → Steps p.tables e below (T.setTop g) target := by
  obtain ⟨mk, methM, cM, hnamed, hmethM, -, -, -, -, -, -, hsigM⟩ := Cond.codeWith_spec hcode
  have hstatic : methM.isStatic = true := Cond.static_spec hnamed hmethM hstat
  obtain ⟨kP, hkP, -⟩ := className_of_methodNamed hnamed
  have hinitP : kP.init = .initialized := Cond.initialized_spec (findClass_of_methodNamed hnamed) hkP hinit
  obtain ⟨vm₁, X₁, hstep₁⟩ := X.invokestatic hexec hown hlink hnamed hmethM hstatic hkP hinitP hy (g := g) hg (argsL := argsL) (rest := rest) (hlen _ hsigM) hstack hdg
  obtain ⟨v, B, X', hpost, hsteps⟩ := hK m meth c ⟨T.setVm vm₁, locs, cells, slots⟩ { g with stack := rest } (.invokestatic index) mk argsL.toArray X₁ hg hsize hdg hW (X₁.named hnamed) (hpre vm₁ X₁.warmed)
  exact ⟨v, vm₁, B, X₁.warmed, X', hpost, fun target h => hstep₁ _ fun acts => by rw [doInvoke_state]; exact hsteps.trans h⟩
theorem vx_runSW {y : MethodName} {bytes cc : ByteArray} {maxL nL mc ms n index : Nat} {ret : Option FieldType} {hh : List (Nat × Nat × Nat × Nat)} {ws : List Cond} {rm : Room} {Pc : Array Value → State → Prop} {Qc : Array Value → State → Outcome → State → Prop} {free : Addr → Prop} {Ts : List Cond} {own : String} {As rest : List Value} {g : JFrame}
    (S : CallFix p m c cc nL s args Ts own) (hM : Met l y ws rm Pc Qc mc ms free) (cw : vx_CSW R s args own index y bytes maxL ret hh ws rm mc ms n) (hp : PreS s H Pc As)
    (hg : g.method = m) (hn : As.length = n) (hsize : g.locals.size = nL) (hstack : g.stack = As.reverse ++ rest) (hW : 2 * g.monitorRoom + (rest.map fun v => v.category).sum ≤ 8) (hdg : decode cc g.pc = .ok (.invokestatic index, 3)) (hf : cells + mc ≤ R.cells ∧ slots + ms ≤ R.slots) :
    va_Run p l e R s m args below meth c H locs cells slots mc ms g rest (Qc As.toArray) (free) := by
  obtain ⟨⟨hrc, hrs, hfr, hlo, hws, hcw⟩, hcode, hini, hy, hlen, hl, hstt⟩ := cw
  have hK : Back l R p e below s args y 3 8 (PreOf R mc ms Pc) (PostOf Qc mc ms free) := va_backW (hh := hh) (bytes := bytes) (maxL := maxL) (ret := ret) hM hp.1 hrc hrs hfr hlo hws hcw (fun a' U hW => word_at hW (Or.inl (by first | rfl | simp [Cond.onTables, Cond.keeps, Cond.steady])) hini)
  obtain ⟨hx, hb, hml, ho, -⟩ := S
  intro T hT X
  obtain ⟨v, vm₁, ⟨U', l2, c2, s2⟩, hW₁, X', ⟨g', mk, t, L, e1, e2, hq, h1, hL, h2, h3⟩, st⟩ := vx_callSW X hx (hh := hh) (bytes := bytes) (maxL := maxL) (ret := ret) ho hl hstt hini hcode hy hK hg (hsize.trans hml.symm) (argsL := As) (rest := rest) (fun sig h => hn.trans (hlen sig h)) hstack hW (by rw [hb]; exact hdg)
    (fun vm₁ hW₁ => ⟨hf.1, hf.2, hp.2 (T.setVm vm₁) hT hW₁⟩)
  dsimp only [Pt.U, Pt.locs, Pt.cells, Pt.slots] at X' e1 e2 h1 h2 h3 st
  subst h1; subst h2; subst h3
  exact ⟨v, (T.setVm vm₁).calling g' mk As.toArray, t, U', L, hT, X', hL, e1, e2, hq, st⟩
/-- not caught here, past rows that name other classes: it goes on to the caller -/
theorem vx_outP {p : Program} {l : Launch} {e : Env} {R : Room} {s : State} {m : MethodId} {args : Array Value} {below : List Frame} {meth : Method} {c : Code} {H : Heap} {locs : List Loc} {cells slots : Nat} {free : Addr → Prop} {ls : Array Slot} {rest : List Value} {Qc : Array Value → State → Outcome → State → Prop} {XC : String → State → State → Prop}
    {pc : Nat} {own E : String} {ce : Cell} {q : Addr} {mc ms : Nat} (hown : s.vm.findClass own = some m.cls) (hlocks : meth.locks = false)
    (hpass : ∀ z ∈ c.exceptionTable.toList, covers z pc = false ∨ (z.catchType ≠ 0 ∧ ∃ nm : String, (Cond.classLink own z.catchType nm).before args s = true ∧ va_Nc E nm s)) (hcell : H[q]? = some ce) (hv : ce.vm = .none) (hcl : s.vm.findClass E = some ce.cls)
    (hx : ∀ t : State, t.heap = H → s.vm.Alike t.vm → XC E s t) (hf : ∀ z ∈ locs, free z.base) (hc : cells ≤ mc) (hs : slots ≤ ms) :
    vx_W p l e R s m args below meth c H locs cells slots (vx_MQ below Qc XC args s mc ms free) (F0 m pc ls rest) q := by
  intro T hT X
  have hpl : e.platform.magicAccessors = ({} : Platform).magicAccessors := by rw [X.admits.platform]
  obtain ⟨vm', hW', X', st⟩ := X.outThrough hlocks q (g := F0 m pc ls rest) rfl rfl rfl (cell := ce) (by rw [hT]; exact hcell) (by rw [hv]; rfl)
    (by obtain ⟨k9, h9, -⟩ := Vm.findClass_spec hcl; exact ⟨k9, h9⟩) (fun z hz => by
      rcases hpass z hz with h | ⟨hz0, nm, hl1, hn1⟩
      · exact Or.inl h
      · obtain ⟨c6, hc6, hcl6⟩ := Cond.classLink_spec hown hl1 e.platform hpl
        obtain ⟨a8, b8, h1, h2, h3⟩ := hn1
        cases Option.some.inj (h1.symm.trans hcl)
        cases Option.some.inj (h2.symm.trans hc6)
        exact Or.inr ⟨hz0, _, hcl6, h3⟩)
  obtain ⟨g₀, hfr⟩ := X'.frames_eq
  have hcell9 : ((T.setVm vm').setFrames (.throwing q :: below)).heap[q]? = some ce := by
    show T.heap[q]? = some ce
    rw [hT]; exact hcell
  have hend : Ended ((T.setVm vm').setFrames (.throwing q :: below)) below (.threw q) := State.frames_setFrames _ (State.cur_lt_of_frames hfr)
  refine ⟨(T.setVm vm').setFrames (.throwing q :: below), ?_, .threw q, X'.here.running, hend, Or.inr ⟨q, rfl, E, ce, locs, hx _ hT (X'.ends _).1.alike, hcell9, hv, hcl, (X'.ends _).1, (X'.ends _).2.mono hc hs, hf⟩⟩
  rw [X.pushThrowing_eq]
  exact st
/-- a thing of a world lies in the heap -/
theorem vx_lt {D : va_G} {cl : List vw_C} {ws : va_W} {H1 : Heap} (h : va_P D cl ws H1) {k : Nat} {q : Nat × va_E} (hk : ws[k]? = some q) : q.1 < H1.size := (h k q hk).lt
end VXS
/-! ===== END ===== -/
/-! ===== BEGIN methods with a table of their own: called by a name, returning or throwing ===== -/
section VXH
/-! vx_backW, vx_callVX, vx_callSX, vx_callVW, vx_runVW, vx_runVX, vx_runSX, vx_ofWH follow the same proofs as their sisters above (Free/Laws.lean, Shelf42/LK1.lean); vx_outP calls Shelf42/NT130.lean (outThrough). -/
section
variable {l : Launch} {R : Room} {p : Program} {e : Env} {below : List Frame} {s : State} {sargs : Array Value} {y : MethodName} {len W9 : Nat}
theorem vx_backW {ws : List Cond} {rm : Room} {Pc : Array Value → State → Prop} {Qc : Array Value → State → Outcome → State → Prop} {XC : String → State → State → Prop} {mc ms : Nat} {free : Addr → Prop} {bytes : ByteArray} {maxL : Nat} {ret : Option FieldType} {hh : List (Nat × Nat × Nat × Nat)}
    (hM : vx_Met l y ws rm Pc Qc XC mc ms free) (hblind : FrameBlind Pc) (hrc : rm.cells = mc) (hrs : rm.slots = ms)
    (hframes : rm.frames + 1 ≤ R.frames) (hlocals : W9 + (maxL + 11) + rm.locals ≤ R.locals)
    (hws : ∀ w ∈ ws, ∀ a' U, s.WarmedH U.vm → w.before a' U = true) (hcode : Cond.codeWith y bytes maxL ret hh ∈ ws) (hinit : ∀ a' U, s.WarmedH U.vm → (Cond.initialized y.cls).before a' U = true) :
    vx_Back l R p e below s sargs y len W9 (PreOf R mc ms Pc) (PostOf Qc mc ms free) (vx_Post XC mc ms free) := by
  intro m meth c A g ig mk a X hg hsize hdg hW hn hp
  have h1 : (headSpec ws rm).pre.before a A.U = true := atoms_intro fun w hw => hws w hw _ _ X.warmed
  have h2 : (Cond.codeWith y bytes maxL ret hh).before a A.U = true := hws _ hcode _ _ X.warmed
  have h3 : (Cond.initialized y.cls).before a A.U = true := hinit _ _ X.warmed
  have h4 : A.cells + (headSpec ws rm).room.cells ≤ R.cells := by rw [show (headSpec ws rm).room.cells = mc from hrc]; exact hp.1
  have h5 : A.slots + (headSpec ws rm).room.slots ≤ R.slots := by rw [show (headSpec ws rm).room.slots = ms from hrs]; exact hp.2.1
  have hPc : Pc a (A.U.calling g mk a) := hblind _ _ _ _ hp.2.2
  obtain ⟨U, Ls, c0, s0⟩ := A
  dsimp only [Pt.U, Pt.locs, Pt.cells, Pt.slots] at h1 h2 h3 h4 h5 X hn hPc ⊢
  obtain ⟨m9, methY, cY, hn9, hmY, hcY, -, hlY, -⟩ := Cond.codeWith_spec h2
  cases Option.some.inj (hn9.symm.trans hn)
  obtain ⟨kY, hkY, -⟩ := className_of_methodNamed hn
  have hinitY : kY.init = .initialized := Cond.initialized_spec (findClass_of_methodNamed hn) hkY h3
  have h : At U g.method c below := by rw [hg]; exact X.here
  have hlocals9 : W9 + (maxL + 11) + (headSpec ws rm).room.locals ≤ R.locals := hlocals
  have happ : (headSpec ws rm).appliesLoose y e.platform (U.calling g mk a) = true :=
    Spec.appliesLoose_calling (g := g) h hdg hn hkY hinitY
      (X.room_calling (g := g) (R' := (headSpec ws rm).room) hsize hmY hcY hframes (by rw [hlY]; omega) h4 h5) h1
  obtain ⟨mid, hmid⟩ := h.above
  have hfr : (U.setTop g).frames = (.java g :: mid) ++ below := by rw [State.frames_setTop' g h.top, hmid]; rfl
  obtain ⟨o, s₂, hsteps, -, hend, hq⟩ := Steps.callFree hM p X.admits X.cas X.clock (acts := []) hfr happ hPc trivial
  have hq' : vx_Q Qc XC mc ms free a (U.calling g mk a) o s₂ := hq
  rw [State.frames_setTop' g h.top] at hend
  obtain ⟨g₀, hg0⟩ := Option.isSome_iff_exists.mp h.top
  obtain ⟨r, hr⟩ := State.topJava?_eq_some.mp hg0
  have hr' : (({ U with heap := s₂.heap, slotsUsed := s₂.slotsUsed } : State).setVm s₂.vm).frames = .java g₀ :: r := hr
  rcases hq' with ⟨hqc, L, hfe, hL⟩ | ⟨q, rfl, E, ce, L, hx, hce, hcv, hcl, hW₂, hsm, hL⟩
  · obtain ⟨⟨v, rfl⟩, hW₂, e2, q2, q3, q4, q5, q6⟩ := id hfe
    have e3 : s₂ = ({ (U.calling g mk a).setFrames s₂.frames with heap := s₂.heap, slotsUsed := s₂.slotsUsed } : State).setVm s₂.vm := by
      have : s₂ = ({ s₂ with vm := (U.calling g mk a).vm } : State).setVm s₂.vm := rfl
      rw [e2] at this
      exact this
    obtain ⟨c₂, i₂, len₂, hc₂, hd₂, hf₂⟩ := hend
    have hW' : U.WarmedH s₂.vm := hW₂
    have hcc : c₂ = c := by
      have h1 : s₂.code? g.method = U.code? g.method := by
        rw [State.code?_eq, State.code?_eq, hW'.alike.method?]
      exact Option.some.inj (hc₂.symm.trans (h1.trans h.code))
    subst hcc
    have hlen : len₂ = len := by rw [hdg] at hd₂; cases hd₂; rfl
    subst hlen
    have hs₂ : s₂ = (({ U with heap := s₂.heap, slotsUsed := s₂.slotsUsed } : State).setVm s₂.vm).setTop { g with pc := g.pc + len₂, stack := v.toList ++ g.stack } := by
      refine e3.trans ?_
      rw [hf₂, State.calling_eq h.top, State.setFrames_setFrames, State.setTop_of_frames _ hr', hr]
      rfl
    have hsame : U.sameButNew ({ U with heap := s₂.heap, slotsUsed := s₂.slotsUsed } : State) L mc ms := by
      refine ⟨?_, q2, q3, q4, q5, q6⟩
      obtain ⟨t, ht, -⟩ := State.frames_cons hr
      show ({ U with heap := s₂.heap, slotsUsed := s₂.slotsUsed } : State) = { U.setFrames U.frames with heap := s₂.heap, slotsUsed := s₂.slotsUsed }
      rw [State.setFrames_self ht]
    subst hg
    refine Or.inl ⟨v, ⟨(({ U with heap := s₂.heap, slotsUsed := s₂.slotsUsed } : State).setVm s₂.vm), Ls ++ L, c0 + mc, s0 + ms⟩,
      ⟨X.admits, X.cas, X.clock, X.frames, X.room, X.hears, X.method, X.code, (X.here.setHeapUsed s₂.heap s₂.slotsUsed).setVm hW'.alike, X.tail, State.WarmedH.trans X.warmed hW', X.limits, X.bytes, X.same.trans (hsame.setVm s.vm)⟩,
      ⟨g, mk, s₂, L, rfl, rfl, hqc, rfl, hL, rfl, rfl⟩, ?_⟩
    show Steps p.tables e below _ ((({ U with heap := s₂.heap, slotsUsed := s₂.slotsUsed } : State).setVm s₂.vm).setTop { g with pc := g.pc + len₂, stack := v.toList ++ g.stack })
    rw [← hs₂]
    exact hsteps
  · obtain ⟨e2, q2, q3, q4, q5, q6⟩ := id hsm
    have e3 : s₂ = ({ (U.calling g mk a).setFrames s₂.frames with heap := s₂.heap, slotsUsed := s₂.slotsUsed } : State).setVm s₂.vm := by
      have : s₂ = ({ s₂ with vm := (U.calling g mk a).vm } : State).setVm s₂.vm := rfl
      rw [e2] at this
      exact this
    have hf₂ : s₂.frames = .throwing q :: .java g :: U.frames.tail := hend
    have hW' : U.WarmedH s₂.vm := hW₂
    have hs₂ : s₂ = ((({ U with heap := s₂.heap, slotsUsed := s₂.slotsUsed } : State).setVm s₂.vm).setTop g).pushFrame (.throwing q) := by
      refine e3.trans ?_
      rw [hf₂, State.calling_eq h.top, State.setFrames_setFrames, State.pushFrame, State.frames_setTop _ hr', State.setTop_of_frames _ hr', State.setFrames_setFrames, hr]
      rfl
    have hsame : U.sameButNew ({ U with heap := s₂.heap, slotsUsed := s₂.slotsUsed } : State) L mc ms := by
      refine ⟨?_, q2, q3, q4, q5, q6⟩
      obtain ⟨t, ht, -⟩ := State.frames_cons hr
      show ({ U with heap := s₂.heap, slotsUsed := s₂.slotsUsed } : State) = { U.setFrames U.frames with heap := s₂.heap, slotsUsed := s₂.slotsUsed }
      rw [State.setFrames_self ht]
    subst hg
    refine Or.inr ⟨q, ⟨(({ U with heap := s₂.heap, slotsUsed := s₂.slotsUsed } : State).setVm s₂.vm), Ls ++ L, c0 + mc, s0 + ms⟩,
      ⟨X.admits, X.cas, X.clock, X.frames, X.room, X.hears, X.method, X.code, (X.here.setHeapUsed s₂.heap s₂.slotsUsed).setVm hW'.alike, X.tail, State.WarmedH.trans X.warmed hW', X.limits, X.bytes, X.same.trans (hsame.setVm s.vm)⟩,
      ⟨g, mk, s₂, L, E, ce, rfl, rfl, hx, hce, hcv, hcl, rfl, hL, rfl, rfl⟩, ?_⟩
    show Steps p.tables e below _ (((({ U with heap := s₂.heap, slotsUsed := s₂.slotsUsed } : State).setVm s₂.vm).setTop g).pushFrame (.throwing q))
    rw [← hs₂]
    exact hsteps
end
variable {p : Program} {l : Launch} {e : Env} {R : Room} {s : State} {m : MethodId} {args : Array Value} {below : List Frame} {meth : Method} {c : Code} {T : State} {H : Heap} {locs : List Loc} {cells slots : Nat}
theorem vx_callVX (X : Stand p l e R s m args below meth c T locs cells slots) (hexec : p.tables.exec = Jvm.exec) {own C : String} {index : Nat} {y : MethodName} {bytes : ByteArray} {maxL : Nat} {ret : Option FieldType} {hh : List (Nat × Nat × Nat × Nat)}
    (hown : s.vm.findClass own = some m.cls) (hlink : (Cond.methodLink own index y).before args s = true) (hinst : (Cond.instanceMethod y).before args s = true) (hsel : (Cond.selects C y y).before args s = true)
    (hcode : (Cond.codeWith y bytes maxL ret hh).before args s = true) (hy : y.cls ≠ "java/lang/invoke/MethodHandle" ∧ y.cls ≠ "java/lang/invoke/VarHandle")
    {W9 : Nat} {Pre : Pt → Array Value → Prop} {Post : Pt → Array Value → Option Value → Pt → Prop} {PostX : Pt → Array Value → Addr → Pt → Prop} (hK : vx_Back l R p e below s args y 3 W9 Pre Post PostX)
    {b : Addr} {cellB : Cell} (hcell : T.heap[b]? = some cellB) (hobj : cellB.vm.isStatics = false) (hcls : s.vm.findClass C = some cellB.cls)
    {g : JFrame} (hg : g.method = m) (hsize : g.locals.size = c.maxLocals) {argsL rest : List Value} (hlen : ∀ sig, parseMethodDescriptor y.desc = some sig → argsL.length = sig.parameters.length)
    (hstack : g.stack = argsL.reverse ++ .ref b :: rest) (hW : 2 * g.monitorRoom + (rest.map fun v => v.category).sum ≤ W9) (hdg : decode c.code g.pc = .ok (.invokevirtual index, 3))
    (hpre : ∀ vm₁, s.WarmedH vm₁ → Pre ⟨T.setVm vm₁, locs, cells, slots⟩ (Value.ref b :: argsL).toArray) :
    (∃ (v : Option Value) (vm₁ : Vm) (B : Pt), s.WarmedH vm₁ ∧ Stand p l e R s m args below meth c B.U B.locs B.cells B.slots ∧ Post ⟨T.setVm vm₁, locs, cells, slots⟩ (Value.ref b :: argsL).toArray v B ∧
      ∀ target, Steps p.tables e below (B.U.setTop { g with pc := g.pc + 3, stack := v.toList ++ rest }) target → Steps p.tables e below (T.setTop g) target) ∨
    (∃ (q : Addr) (vm₁ : Vm) (B : Pt), s.WarmedH vm₁ ∧ Stand p l e R s m args below meth c B.U B.locs B.cells B.slots ∧ PostX ⟨T.setVm vm₁, locs, cells, slots⟩ (Value.ref b :: argsL).toArray q B ∧
      Steps p.tables e below (T.setTop g) ((B.U.setTop { g with stack := rest }).pushFrame (.throwing q))) := by
  obtain ⟨mk, methM, hnamed, hmethM, hstM, habM⟩ := Cond.instanceMethod_spec hinst
  obtain ⟨m8, methM', cM, hn8, hmethM', -, -, -, -, -, -, hsigM⟩ := Cond.codeWith_spec hcode
  cases Option.some.inj (hn8.symm.trans hnamed)
  cases hmethM.symm.trans hmethM'
  obtain ⟨c2, r2, m2, q1, q2, q3, q4, kP, hkP, hkPi⟩ := Cond.selects_spec hsel
  cases hcls.symm.trans q1
  cases (State.methodFound?_of_named hnamed hy).symm.trans q2
  cases hnamed.symm.trans q3
  have hselP : selectMethod e.platform s.vm cellB.cls mk = .method mk := by rw [Launch.admits_selectMethod X.admits]; exact q4
  obtain ⟨vm₁, X₁, hstep₁⟩ := X.invokevirtual hexec hown hlink hnamed hmethM hstM hkP hkPi hy (a := b) (cell := cellB) hcell
    (fun z h => by rw [h] at hobj; cases hobj) hselP hmethM habM hkP hkPi (g := g) hg (argsL := argsL) (rest := rest) (hlen _ hsigM) hstack hdg
  rcases hK m meth c ⟨T.setVm vm₁, locs, cells, slots⟩ { g with stack := rest } (.invokevirtual index) mk (Value.ref b :: argsL).toArray X₁ hg hsize hdg hW (X₁.named hnamed) (hpre vm₁ X₁.warmed) with ⟨v, B, X', hpost, hsteps⟩ | ⟨q, B, X', hpost, hsteps⟩
  · exact Or.inl ⟨v, vm₁, B, X₁.warmed, X', hpost, fun target h => hstep₁ _ fun acts => by rw [doInvoke_state]; exact hsteps.trans h⟩
  · exact Or.inr ⟨q, vm₁, B, X₁.warmed, X', hpost, hstep₁ _ fun acts => by rw [doInvoke_state]; exact hsteps⟩
theorem vx_callSX (X : Stand p l e R s m args below meth c T locs cells slots) (hexec : p.tables.exec = Jvm.exec) {own : String} {index : Nat} {y : MethodName} {bytes : ByteArray} {maxL : Nat} {ret : Option FieldType} {hh : List (Nat × Nat × Nat × Nat)}
    (hown : s.vm.findClass own = some m.cls) (hlink : (Cond.methodLink own index y).before args s = true) (hstat : (Cond.static y).before args s = true) (hinit : (Cond.initialized y.cls).before args s = true)
    (hcode : (Cond.codeWith y bytes maxL ret hh).before args s = true) (hy : y.cls ≠ "java/lang/invoke/MethodHandle" ∧ y.cls ≠ "java/lang/invoke/VarHandle")
    {W9 : Nat} {Pre : Pt → Array Value → Prop} {Post : Pt → Array Value → Option Value → Pt → Prop} {PostX : Pt → Array Value → Addr → Pt → Prop} (hK : vx_Back l R p e below s args y 3 W9 Pre Post PostX)
    {g : JFrame} (hg : g.method = m) (hsize : g.locals.size = c.maxLocals) {argsL rest : List Value} (hlen : ∀ sig, parseMethodDescriptor y.desc = some sig → argsL.length = sig.parameters.length)
    (hstack : g.stack = argsL.reverse ++ rest) (hW : 2 * g.monitorRoom + (rest.map fun v => v.category).sum ≤ W9) (hdg : decode c.code g.pc = .ok (.invokestatic index, 3))
    (hpre : ∀ vm₁, s.WarmedH vm₁ → Pre ⟨T.setVm vm₁, locs, cells, slots⟩ argsL.toArray) :
    (∃ (v : Option Value) (vm₁ : Vm) (B : Pt), s.WarmedH vm₁ ∧ Stand p l e R s m args below meth c B.U B.locs B.cells B.slots ∧ Post ⟨T.setVm vm₁, locs, cells, slots⟩ argsL.toArray v B ∧
      ∀ target, Steps p.tables e below (B.U.setTop { g with pc := g.pc + 3, stack := v.toList ++ rest }) target → Steps p.tables e below (T.setTop g) target) ∨
    (∃ (q : Addr) (vm₁ : Vm) (B : Pt), s.WarmedH vm₁ ∧ Stand p l e R s m args below meth c B.U B.locs B.cells B.slots ∧ PostX ⟨T.setVm vm₁, locs, cells, slots⟩ argsL.toArray q B ∧
      Steps p.tables e below (T.setTop g) ((B.U.setTop { g with stack := rest }).pushFrame (.throwing q))) := by
  obtain ⟨mk, methM, cM, hnamed, hmethM, -, -, -, -, -, -, hsigM⟩ := Cond.codeWith_spec hcode
  have hstatic : methM.isStatic = true := Cond.static_spec hnamed hmethM hstat
  obtain ⟨kP, hkP, -⟩ := className_of_methodNamed hnamed
  have hinitP : kP.init = .initialized := Cond.initialized_spec (findClass_of_methodNamed hnamed) hkP hinit
  obtain ⟨vm₁, X₁, hstep₁⟩ := X.invokestatic hexec hown hlink hnamed hmethM hstatic hkP hinitP hy (g := g) hg (argsL := argsL) (rest := rest) (hlen _ hsigM) hstack hdg
  rcases hK m meth c ⟨T.setVm vm₁, locs, cells, slots⟩ { g with stack := rest } (.invokestatic index) mk argsL.toArray X₁ hg hsize hdg hW (X₁.named hnamed) (hpre vm₁ X₁.warmed) with ⟨v, B, X', hpost, hsteps⟩ | ⟨q, B, X', hpost, hsteps⟩
  · exact Or.inl ⟨v, vm₁, B, X₁.warmed, X', hpost, fun target h => hstep₁ _ fun acts => by rw [doInvoke_state]; exact hsteps.trans h⟩
  · exact Or.inr ⟨q, vm₁, B, X₁.warmed, X', hpost, hstep₁ _ fun acts => by rw [doInvoke_state]; exact hsteps⟩
theorem vx_callVW (X : Stand p l e R s m args below meth c T locs cells slots) (hexec : p.tables.exec = Jvm.exec) {own C : String} {index : Nat} {y : MethodName} {bytes : ByteArray} {maxL : Nat} {ret : Option FieldType} {hh : List (Nat × Nat × Nat × Nat)}
    (hown : s.vm.findClass own = some m.cls) (hlink : (Cond.methodLink own index y).before args s = true) (hinst : (Cond.instanceMethod y).before args s = true) (hsel : (Cond.selects C y y).before args s = true)
    (hcode : (Cond.codeWith y bytes maxL ret hh).before args s = true) (hy : y.cls ≠ "java/lang/invoke/MethodHandle" ∧ y.cls ≠ "java/lang/invoke/VarHandle")
    {W9 : Nat} {Pre : Pt → Array Value → Prop} {Post : Pt → Array Value → Option Value → Pt → Prop} (hK : Back l R p e below s args y 3 W9 Pre Post)
    {b : Addr} {cellB : Cell} (hcell : T.heap[b]? = some cellB) (hobj : cellB.vm.isStatics = false) (hcls : s.vm.findClass C = some cellB.cls)
    {g : JFrame} (hg : g.method = m) (hsize : g.locals.size = c.maxLocals) {argsL rest : List Value} (hlen : ∀ sig, parseMethodDescriptor y.desc = some sig → argsL.length = sig.parameters.length)
    (hstack : g.stack = argsL.reverse ++ .ref b :: rest) (hW : 2 * g.monitorRoom + (rest.map fun v => v.category).sum ≤ W9) (hdg : decode c.code g.pc = .ok (.invokevirtual index, 3))
    (hpre : ∀ vm₁, s.WarmedH vm₁ → Pre ⟨T.setVm vm₁, locs, cells, slots⟩ (Value.ref b :: argsL).toArray) :
    ∃ (v : Option Value) (vm₁ : Vm) (B : Pt), s.WarmedH vm₁ ∧ Stand p l e R s m args below meth c B.U B.locs B.cells B.slots ∧ Post ⟨T.setVm vm₁, locs, cells, slots⟩ (Value.ref b :: argsL).toArray v B ∧
      ∀ target, Steps p.tables e below (B.U.setTop { g with pc := g.pc + 3, stack := v.toList ++ rest }) target → Steps p.tables e below (T.setTop g) target := by
  obtain ⟨mk, methM, hnamed, hmethM, hstM, habM⟩ := Cond.instanceMethod_spec hinst
  obtain ⟨m8, methM', cM, hn8, hmethM', -, -, -, -, -, -, hsigM⟩ := Cond.codeWith_spec hcode
  cases Option.some.inj (hn8.symm.trans hnamed)
  cases hmethM.symm.trans hmethM'
  obtain ⟨c2, r2, m2, q1, q2, q3, q4, kP, hkP, hkPi⟩ := Cond.selects_spec hsel
  cases hcls.symm.trans q1
  cases (State.methodFound?_of_named hnamed hy).symm.trans q2
  cases hnamed.symm.trans q3
  have hselP : selectMethod e.platform s.vm cellB.cls mk = .method mk := by rw [Launch.admits_selectMethod X.admits]; exact q4
  obtain ⟨vm₁, X₁, hstep₁⟩ := X.invokevirtual hexec hown hlink hnamed hmethM hstM hkP hkPi hy (a := b) (cell := cellB) hcell
    (fun z h => by rw [h] at hobj; cases hobj) hselP hmethM habM hkP hkPi (g := g) hg (argsL := argsL) (rest := rest) (hlen _ hsigM) hstack hdg
  obtain ⟨v, B, X', hpost, hsteps⟩ := hK m meth c ⟨T.setVm vm₁, locs, cells, slots⟩ { g with stack := rest } (.invokevirtual index) mk (Value.ref b :: argsL).toArray X₁ hg hsize hdg hW (X₁.named hnamed) (hpre vm₁ X₁.warmed)
  exact ⟨v, vm₁, B, X₁.warmed, X', hpost, fun target h => hstep₁ _ fun acts => by rw [doInvoke_state]; exact hsteps.trans h⟩
abbrev vx_CVW (R : Room) (s : State) (args : Array Value) (own C : String) (index : Nat) (y : MethodName) (bytes : ByteArray) (maxL : Nat) (ret : Option FieldType) (hh : List (Nat × Nat × Nat × Nat)) (ws : List Cond) (rm : Room) (mc ms n : Nat) : Prop :=
  (rm.cells = mc ∧ rm.slots = ms ∧ rm.frames + 1 ≤ R.frames ∧ 8 + (maxL + 11) + rm.locals ≤ R.locals ∧ (∀ w ∈ ws, ∀ (a' : Array Value) (U : State), s.WarmedH U.vm → w.before a' U = true) ∧ Cond.codeWith y bytes maxL ret hh ∈ ws) ∧
  (Cond.codeWith y bytes maxL ret hh).before args s = true ∧ (Cond.initialized y.cls).before args s = true ∧ (y.cls ≠ "java/lang/invoke/MethodHandle" ∧ y.cls ≠ "java/lang/invoke/VarHandle") ∧
  (∀ sig, parseMethodDescriptor y.desc = some sig → n = sig.parameters.length) ∧ (Cond.methodLink own index y).before args s = true ∧ (Cond.instanceMethod y).before args s = true ∧ (Cond.selects C y y).before args s = true
theorem vx_cwVW {own C : String} {index maxL mc ms : Nat} {y : MethodName} {bytes : ByteArray} {ret : Option FieldType} {hh : List (Nat × Nat × Nat × Nat)} {Ts ws ws' : List Cond} {rm : Room} (n : Nat) (ht : ∀ w ∈ Ts, w.before args s = true) (hT : GoodIn Ts (wsV own index C y ws)) (hw : ws = Cond.codeWith y bytes maxL ret hh :: ws') (hrc : rm.cells = mc) (hrs : rm.slots = ms)
    (hd : y.cls = C ∧ y.cls ≠ "java/lang/invoke/MethodHandle" ∧ y.cls ≠ "java/lang/invoke/VarHandle" ∧ (parseMethodDescriptor y.desc).map (fun d => d.parameters.length) = some n) (hR : rm.frames + 1 ≤ R.frames ∧ 8 + (maxL + 11) + rm.locals ≤ R.locals) :
    vx_CVW R s args own C index y bytes maxL ret hh ws rm mc ms n := by
  obtain ⟨hC, hd⟩ := hd
  subst hC
  have ok : ∀ w ∈ wsV own index y.cls y ws, w.before args s = true := fun w h => ht w (hT w h).1
  have hG : GoodIn Ts ws := fun w h => hT w (by unfold wsV; exact List.mem_append_right _ h)
  have hc : Cond.codeWith y bytes maxL ret hh ∈ ws := by rw [hw]; exact List.mem_cons_self
  refine ⟨⟨hrc, hrs, hR.1, hR.2, pay_in ht hG, hc⟩, ht _ (hG _ hc).1, ok _ (by simp [wsV]), ⟨hd.1, hd.2.1⟩, fun sig h => ?_, ok _ (by simp [wsV]), ok _ (by simp [wsV]), ok _ (by simp [wsV])⟩
  have h2 := hd.2.2
  rw [h] at h2
  exact (Option.some.inj h2).symm
theorem vx_runVW {y : MethodName} {bytes cc : ByteArray} {maxL nL mc ms n index : Nat} {ret : Option FieldType} {hh : List (Nat × Nat × Nat × Nat)} {ws : List Cond} {rm : Room} {Pc : Array Value → State → Prop} {Qc : Array Value → State → Outcome → State → Prop} {free : Addr → Prop} {Ts : List Cond} {own C : String} {b : Addr} {As rest : List Value} {g : JFrame}
    (S : CallFix p m c cc nL s args Ts own) (hM : Met l y ws rm Pc Qc mc ms free) (cw : vx_CVW R s args own C index y bytes maxL ret hh ws rm mc ms n) (hp : PreV s H C b Pc As)
    (hg : g.method = m) (hn : As.length = n) (hsize : g.locals.size = nL) (hstack : g.stack = As.reverse ++ .ref b :: rest) (hW : 2 * g.monitorRoom + (rest.map fun v => v.category).sum ≤ 8) (hdg : decode cc g.pc = .ok (.invokevirtual index, 3)) (hf : cells + mc ≤ R.cells ∧ slots + ms ≤ R.slots) :
    va_Run p l e R s m args below meth c H locs cells slots mc ms g rest (Qc (Value.ref b :: As).toArray) free := by
  obtain ⟨⟨hrc, hrs, hfr, hlo, hws, hcw⟩, hcode, hini, hy, hlen, hl, hin, hse⟩ := cw
  have hK : Back l R p e below s args y 3 8 (PreOf R mc ms Pc) (PostOf Qc mc ms free) := va_backW (hh := hh) (bytes := bytes) (maxL := maxL) (ret := ret) hM hp.1 hrc hrs hfr hlo hws hcw (fun a' U hW => word_at hW (Or.inl (by first | rfl | simp [Cond.onTables, Cond.keeps, Cond.steady])) hini)
  obtain ⟨hx, hb, hml, ho, -⟩ := S
  obtain ⟨-, ⟨cellB, hcB, hoB, hclB⟩, hPc⟩ := hp
  intro T hT X
  obtain ⟨v, vm₁, ⟨U', l2, c2, s2⟩, hW₁, X', ⟨g', mk, t, L, e1, e2, hq, h1, hL, h2, h3⟩, st⟩ := vx_callVW X hx (C := C) (hh := hh) (bytes := bytes) (maxL := maxL) (ret := ret) ho hl hin hse hcode hy hK (by rw [hT]; exact hcB) hoB hclB hg (hsize.trans hml.symm) (argsL := As) (rest := rest) (fun sig h => hn.trans (hlen sig h)) hstack hW (by rw [hb]; exact hdg)
    (fun vm₁ hW₁ => ⟨hf.1, hf.2, hPc (T.setVm vm₁) hT hW₁⟩)
  dsimp only [Pt.U, Pt.locs, Pt.cells, Pt.slots] at X' e1 e2 h1 h2 h3 st
  subst h1; subst h2; subst h3
  exact ⟨v, (T.setVm vm₁).calling g' mk (Value.ref b :: As).toArray, t, U', L, hT, X', hL, e1, e2, hq, st⟩
section
variable {y : MethodName} {bytes cc : ByteArray} {maxL nL mc ms n index : Nat} {ret : Option FieldType} {ws : List Cond} {rm : Room} {Pc : Array Value → State → Prop} {Qc : Array Value → State → Outcome → State → Prop} {XC : String → State → State → Prop} {free : Addr → Prop} {Ts : List Cond} {own C : String} {b : Addr} {As rest : List Value} {g : JFrame}
theorem vx_runVX {hh : List (Nat × Nat × Nat × Nat)} (S : CallFix p m c cc nL s args Ts own) (hM : vx_Met l y ws rm Pc Qc XC mc ms free) (cw : vx_CVW R s args own C index y bytes maxL ret hh ws rm mc ms n) (hp : PreV s H C b Pc As)
    (hg : g.method = m) (hn : As.length = n) (hsize : g.locals.size = nL) (hstack : g.stack = As.reverse ++ .ref b :: rest) (hW : 2 * g.monitorRoom + (rest.map fun v => v.category).sum ≤ 8) (hdg : decode cc g.pc = .ok (.invokevirtual index, 3)) (hf : cells + mc ≤ R.cells ∧ slots + ms ≤ R.slots) :
    vx_Run p l e R s m args below meth c H locs cells slots mc ms g rest (Qc (Value.ref b :: As).toArray) XC free := by
  obtain ⟨⟨hrc, hrs, hfr, hlo, hws, hcw⟩, hcode, hini, hy, hlen, hl, hin, hse⟩ := cw
  have hK : vx_Back l R p e below s args y 3 8 (PreOf R mc ms Pc) (PostOf Qc mc ms free) (vx_Post XC mc ms free) := vx_backW (hh := hh) (bytes := bytes) (maxL := maxL) (ret := ret) hM hp.1 hrc hrs hfr hlo hws hcw (fun a' U hW => word_at hW (Or.inl (by first | rfl | simp [Cond.onTables, Cond.keeps, Cond.steady])) hini)
  obtain ⟨hx, hb, hml, ho, -⟩ := S
  obtain ⟨-, ⟨cellB, hcB, hoB, hclB⟩, hPc⟩ := hp
  intro T hT X
  rcases vx_callVX X hx (C := C) (hh := hh) (bytes := bytes) (maxL := maxL) (ret := ret) ho hl hin hse hcode hy hK (by rw [hT]; exact hcB) hoB hclB hg (hsize.trans hml.symm) (argsL := As) (rest := rest) (fun sig h => hn.trans (hlen sig h)) hstack hW (by rw [hb]; exact hdg)
    (fun vm₁ hW₁ => ⟨hf.1, hf.2, hPc (T.setVm vm₁) hT hW₁⟩) with ⟨v, vm₁, ⟨U', l2, c2, s2⟩, hW₁, X', ⟨g', mk, t, L, e1, e2, hq, h1, hL, h2, h3⟩, st⟩ | ⟨q, vm₁, ⟨U', l2, c2, s2⟩, hW₁, X', ⟨g', mk, t, L, E, ce, e1, e2, hq, hce, hcv, hcl, h1, hL, h2, h3⟩, st⟩
  · dsimp only [Pt.U, Pt.locs, Pt.cells, Pt.slots] at X' e1 e2 h1 h2 h3 st
    subst h1; subst h2; subst h3
    exact Or.inl ⟨v, (T.setVm vm₁).calling g' mk (Value.ref b :: As).toArray, t, U', L, hT, X', hL, e1, e2, hq, st⟩
  · dsimp only [Pt.U, Pt.locs, Pt.cells, Pt.slots] at X' e1 e2 h1 h2 h3 st hcl
    subst h1; subst h2; subst h3
    exact Or.inr ⟨q, (T.setVm vm₁).calling g' mk (Value.ref b :: As).toArray, t, U', L, E, ce, hT, X', hL, e1, e2, hq, hce, hcv, vx_cls hW₁ hcl, st⟩
theorem vx_runSX {hh : List (Nat × Nat × Nat × Nat)} (S : CallFix p m c cc nL s args Ts own) (hM : vx_Met l y ws rm Pc Qc XC mc ms free) (cw : vx_CSW R s args own index y bytes maxL ret hh ws rm mc ms n) (hp : PreS s H Pc As)
    (hg : g.method = m) (hn : As.length = n) (hsize : g.locals.size = nL) (hstack : g.stack = As.reverse ++ rest) (hW : 2 * g.monitorRoom + (rest.map fun v => v.category).sum ≤ 8) (hdg : decode cc g.pc = .ok (.invokestatic index, 3)) (hf : cells + mc ≤ R.cells ∧ slots + ms ≤ R.slots) :
    vx_Run p l e R s m args below meth c H locs cells slots mc ms g rest (Qc As.toArray) XC free := by
  obtain ⟨⟨hrc, hrs, hfr, hlo, hws, hcw⟩, hcode, hini, hy, hlen, hl, hstt⟩ := cw
  have hK : vx_Back l R p e below s args y 3 8 (PreOf R mc ms Pc) (PostOf Qc mc ms free) (vx_Post XC mc ms free) := vx_backW (hh := hh) (bytes := bytes) (maxL := maxL) (ret := ret) hM hp.1 hrc hrs hfr hlo hws hcw (fun a' U hW => word_at hW (Or.inl (by first | rfl | simp [Cond.onTables, Cond.keeps, Cond.steady])) hini)
  obtain ⟨hx, hb, hml, ho, -⟩ := S
  intro T hT X
  rcases vx_callSX X hx (hh := hh) (bytes := bytes) (maxL := maxL) (ret := ret) ho hl hstt hini hcode hy hK hg (hsize.trans hml.symm) (argsL := As) (rest := rest) (fun sig h => hn.trans (hlen sig h)) hstack hW (by rw [hb]; exact hdg)
    (fun vm₁ hW₁ => ⟨hf.1, hf.2, hp.2 (T.setVm vm₁) hT hW₁⟩) with ⟨v, vm₁, ⟨U', l2, c2, s2⟩, hW₁, X', ⟨g', mk, t, L, e1, e2, hq, h1, hL, h2, h3⟩, st⟩ | ⟨q, vm₁, ⟨U', l2, c2, s2⟩, hW₁, X', ⟨g', mk, t, L, E, ce, e1, e2, hq, hce, hcv, hcl, h1, hL, h2, h3⟩, st⟩
  · dsimp only [Pt.U, Pt.locs, Pt.cells, Pt.slots] at X' e1 e2 h1 h2 h3 st
    subst h1; subst h2; subst h3
    exact Or.inl ⟨v, (T.setVm vm₁).calling g' mk As.toArray, t, U', L, hT, X', hL, e1, e2, hq, st⟩
  · dsimp only [Pt.U, Pt.locs, Pt.cells, Pt.slots] at X' e1 e2 h1 h2 h3 st hcl
    subst h1; subst h2; subst h3
    exact Or.inr ⟨q, (T.setVm vm₁).calling g' mk As.toArray, t, U', L, E, ce, hT, X', hL, e1, e2, hq, hce, hcv, vx_cls hW₁ hcl, st⟩
end
end VXH
theorem vx_ofWH {l : Launch} {y : MethodName} {ws ws' : List Cond} {rm : Room} {Pc : Array Value → State → Prop} {Qc : Array Value → State → Outcome → State → Prop} {XC : String → State → State → Prop} {mc ms : Nat} {free : Addr → Prop} {cc : ByteArray} {maxL : Nat} {ret : Option FieldType} {hh : List (Nat × Nat × Nat × Nat)}
    (hy : plainName y.cls = true) (hw : ws = Cond.codeWith y cc maxL ret hh :: ws')
    (body : ∀ p e s m args below meth c s₁, BodyLoose p l y (headSpec ws rm) cc maxL ret e s m args below meth c s₁ → c.maxLocals = maxL → Pc args s →
      W p l e (headSpec ws rm).room s m args below meth c s.heap [] 0 0 (vx_MQ below Qc XC args s mc ms free) (entryFrame m args maxL)) : vx_Met l y ws rm Pc Qc XC mc ms free := by
  refine MetFree.of_bodyS (code := cc) (maxLocals := maxL) (ret := ret) hy ?_ ?_
  · intro args s m h hn
    obtain ⟨m9, meth, c, hn9, h1, h2, h3, h4, -, h5, h6, -⟩ := Cond.codeWith_spec (atoms_spec (ws := ws) h _ (by rw [hw]; exact List.mem_cons_self))
    cases hn.symm.trans hn9
    exact ⟨meth, c, h1, h2, h3, h4, h5, h6⟩
  · intro p e s m args below meth c s₁ B hml hP _
    have hh0 : s₁.heap = s.heap := by rw [B.state]; rfl
    obtain ⟨t, a1, o, b1, b2, b3⟩ := body p e s m args below meth c s₁ B hml hP s₁ hh0 (Stand.of_body B)
    exact ⟨t, o, a1, b1, b2, b3⟩
/-! ===== END ===== -/
end
section
/-! ===== BEGIN printed: names, fields, word lists, decode rows ===== -/
def RX0 : String := "Tureenlist$Deed"
def TX0 : u_T := fun k => match k with
  | _ => ("", "", "", false)
def tyX0 : Nat → FieldType := fun k => match k with
  | _ => .int
abbrev wsX00 : List Cond := u_ws RX0 TX0 0
theorem nmX0 : ∀ a, a < 0 → ∀ b, b < 0 → a ≠ b → (TX0 a).2.1 ≠ (TX0 b).2.1 := by decide +kernel
theorem tyX0_ok : ∀ k, k < 0 → parseFieldDescriptor (TX0 k).2.2.1 = some (tyX0 k) := by decide +kernel
abbrev cX0_init : ByteArray := prog_2_method_1_code
def yX0_init : MethodName := ⟨RX0, "<init>", "(LTureenlist$Wish;LTureenlist$Guest;II)V"⟩
abbrev cX0_isOpen : ByteArray := prog_2_method_2_code
def yX0_isOpen : MethodName := ⟨RX0, "isOpen", "()Z"⟩
abbrev cX0_isSeenAt : ByteArray := prog_2_method_3_code
def yX0_isSeenAt : MethodName := ⟨RX0, "isSeenAt", "(I)Z"⟩
abbrev cX0_showTo : ByteArray := prog_2_method_4_code
def yX0_showTo : MethodName := ⟨RX0, "showTo", "(I)V"⟩
def RX1 : String := "Tureenlist$Gift"
def TX1 : u_T := fun k => match k with
  | 0 => ("Tureenlist$Deed", "of", "LTureenlist$Wish;", true)
  | 1 => ("Tureenlist$Deed", "by", "LTureenlist$Guest;", true)
  | 2 => ("Tureenlist$Deed", "till", "I", true)
  | 3 => ("Tureenlist$Deed", "since", "I", true)
  | 4 => ("Tureenlist$Deed", "open", "Z", false)
  | 5 => ("Tureenlist$Deed", "seers", "I", false)
  | 6 => ("Tureenlist$Gift", "number", "I", true)
  | 7 => ("Tureenlist$Gift", "paid", "I", true)
  | _ => ("Tureenlist$Gift", "state", "I", false)
def tyX1 : Nat → FieldType := fun k => match k with
  | 0 => .object "Tureenlist$Wish"
  | 1 => .object "Tureenlist$Guest"
  | 2 => .int
  | 3 => .int
  | 4 => .boolean
  | 5 => .int
  | 6 => .int
  | 7 => .int
  | _ => .int
abbrev wsX10 : List Cond := u_ws RX1 TX1 9
theorem nmX1 : ∀ a, a < 9 → ∀ b, b < 9 → a ≠ b → (TX1 a).2.1 ≠ (TX1 b).2.1 := by decide +kernel
theorem tyX1_ok : ∀ k, k < 9 → parseFieldDescriptor (TX1 k).2.2.1 = some (tyX1 k) := by decide +kernel
abbrev cX1_init : ByteArray := prog_3_method_1_code
def yX1_init : MethodName := ⟨RX1, "<init>", "(ILTureenlist$Wish;LTureenlist$Guest;III)V"⟩
abbrev cX1_isKept : ByteArray := prog_3_method_2_code
def yX1_isKept : MethodName := ⟨RX1, "isKept", "()Z"⟩
abbrev cX1_isBehind : ByteArray := prog_3_method_3_code
def yX1_isBehind : MethodName := ⟨RX1, "isBehind", "(LTureenlist$Gift;)Z"⟩
def RX2 : String := "Tureenlist$Guest"
def TX2 : u_T := fun k => match k with
  | 0 => ("Tureenlist$Guest", "number", "I", true)
  | _ => ("Tureenlist$Guest", "purse", "I", false)
def tyX2 : Nat → FieldType := fun k => match k with
  | 0 => .int
  | _ => .int
abbrev wsX20 : List Cond := u_ws RX2 TX2 2
theorem nmX2 : ∀ a, a < 2 → ∀ b, b < 2 → a ≠ b → (TX2 a).2.1 ≠ (TX2 b).2.1 := by decide +kernel
theorem tyX2_ok : ∀ k, k < 2 → parseFieldDescriptor (TX2 k).2.2.1 = some (tyX2 k) := by decide +kernel
abbrev cX2_init : ByteArray := prog_4_method_1_code
def yX2_init : MethodName := ⟨RX2, "<init>", "(II)V"⟩
def RX3 : String := "Tureenlist$Hold"
def TX3 : u_T := fun k => match k with
  | 0 => ("Tureenlist$Deed", "of", "LTureenlist$Wish;", true)
  | 1 => ("Tureenlist$Deed", "by", "LTureenlist$Guest;", true)
  | 2 => ("Tureenlist$Deed", "till", "I", true)
  | 3 => ("Tureenlist$Deed", "since", "I", true)
  | 4 => ("Tureenlist$Deed", "open", "Z", false)
  | 5 => ("Tureenlist$Deed", "seers", "I", false)
  | 6 => ("Tureenlist$Hold", "minutes", "I", true)
  | _ => ("Tureenlist$Hold", "used", "Z", false)
def tyX3 : Nat → FieldType := fun k => match k with
  | 0 => .object "Tureenlist$Wish"
  | 1 => .object "Tureenlist$Guest"
  | 2 => .int
  | 3 => .int
  | 4 => .boolean
  | 5 => .int
  | 6 => .int
  | _ => .boolean
abbrev wsX30 : List Cond := u_ws RX3 TX3 8
theorem nmX3 : ∀ a, a < 8 → ∀ b, b < 8 → a ≠ b → (TX3 a).2.1 ≠ (TX3 b).2.1 := by decide +kernel
theorem tyX3_ok : ∀ k, k < 8 → parseFieldDescriptor (TX3 k).2.2.1 = some (tyX3 k) := by decide +kernel
abbrev cX3_init : ByteArray := prog_5_method_1_code
def yX3_init : MethodName := ⟨RX3, "<init>", "(LTureenlist$Wish;LTureenlist$Guest;III)V"⟩
abbrev cX3_standsAt : ByteArray := prog_5_method_2_code
def yX3_standsAt : MethodName := ⟨RX3, "standsAt", "(I)Z"⟩
def RX4 : String := "Tureenlist$Pledge"
def TX4 : u_T := fun k => match k with
  | 0 => ("Tureenlist$Pledge", "by", "LTureenlist$Guest;", true)
  | _ => ("Tureenlist$Pledge", "pence", "I", false)
def tyX4 : Nat → FieldType := fun k => match k with
  | 0 => .object "Tureenlist$Guest"
  | _ => .int
abbrev wsX40 : List Cond := u_ws RX4 TX4 2
theorem nmX4 : ∀ a, a < 2 → ∀ b, b < 2 → a ≠ b → (TX4 a).2.1 ≠ (TX4 b).2.1 := by decide +kernel
theorem tyX4_ok : ∀ k, k < 2 → parseFieldDescriptor (TX4 k).2.2.1 = some (tyX4 k) := by decide +kernel
abbrev cX4_init : ByteArray := prog_6_method_1_code
def yX4_init : MethodName := ⟨RX4, "<init>", "(LTureenlist$Guest;I)V"⟩
def RX5 : String := "Tureenlist$Wish"
def TX5 : u_T := fun k => match k with
  | 0 => ("Tureenlist$Wish", "number", "I", true)
  | 1 => ("Tureenlist$Wish", "count", "I", true)
  | 2 => ("Tureenlist$Wish", "forMany", "Z", true)
  | 3 => ("Tureenlist$Wish", "cost", "I", false)
  | 4 => ("Tureenlist$Wish", "struck", "Z", false)
  | 5 => ("Tureenlist$Wish", "pledges", "Ljava/util/ArrayList;", true)
  | _ => ("Tureenlist$Wish", "stock", "I", false)
def tyX5 : Nat → FieldType := fun k => match k with
  | 0 => .int
  | 1 => .int
  | 2 => .boolean
  | 3 => .int
  | 4 => .boolean
  | 5 => .object "java/util/ArrayList"
  | _ => .int
abbrev wsX50 : List Cond := u_ws RX5 TX5 7
theorem nmX5 : ∀ a, a < 7 → ∀ b, b < 7 → a ≠ b → (TX5 a).2.1 ≠ (TX5 b).2.1 := by decide +kernel
theorem tyX5_ok : ∀ k, k < 7 → parseFieldDescriptor (TX5 k).2.2.1 = some (tyX5 k) := by decide +kernel
abbrev cX5_init : ByteArray := prog_7_method_1_code
def yX5_init : MethodName := ⟨RX5, "<init>", "(IIIZ)V"⟩
abbrev cX5_pledged : ByteArray := prog_7_method_2_code
def yX5_pledged : MethodName := ⟨RX5, "pledged", "()I"⟩
abbrev cX5_pledgedBy : ByteArray := prog_7_method_3_code
def yX5_pledgedBy : MethodName := ⟨RX5, "pledgedBy", "(LTureenlist$Guest;)I"⟩
abbrev cX5_lacking : ByteArray := prog_7_method_4_code
def yX5_lacking : MethodName := ⟨RX5, "lacking", "()I"⟩
abbrev cX5_isOrdered : ByteArray := prog_7_method_5_code
def yX5_isOrdered : MethodName := ⟨RX5, "isOrdered", "()Z"⟩
def RX6 : String := "Tureenlist"
def TX6 : u_T := fun k => match k with
  | 0 => ("Tureenlist", "wishes", "Ljava/util/ArrayList;", true)
  | 1 => ("Tureenlist", "guests", "Ljava/util/ArrayList;", true)
  | 2 => ("Tureenlist", "gifts", "Ljava/util/ArrayList;", true)
  | 3 => ("Tureenlist", "holds", "Ljava/util/ArrayList;", true)
  | 4 => ("Tureenlist", "joined", "I", false)
  | 5 => ("Tureenlist", "minute", "I", false)
  | 6 => ("Tureenlist", "calledOff", "Z", false)
  | 7 => ("Tureenlist", "paidEver", "I", false)
  | _ => ("Tureenlist", "wentBackEver", "I", false)
def tyX6 : Nat → FieldType := fun k => match k with
  | 0 => .object "java/util/ArrayList"
  | 1 => .object "java/util/ArrayList"
  | 2 => .object "java/util/ArrayList"
  | 3 => .object "java/util/ArrayList"
  | 4 => .int
  | 5 => .int
  | 6 => .boolean
  | 7 => .int
  | _ => .int
abbrev wsX60 : List Cond := u_ws RX6 TX6 9
theorem nmX6 : ∀ a, a < 9 → ∀ b, b < 9 → a ≠ b → (TX6 a).2.1 ≠ (TX6 b).2.1 := by decide +kernel
theorem tyX6_ok : ∀ k, k < 9 → parseFieldDescriptor (TX6 k).2.2.1 = some (tyX6 k) := by decide +kernel
abbrev cX6_init : ByteArray := prog_1_method_1_code
def yX6_init : MethodName := ⟨RX6, "<init>", "()V"⟩
abbrev cX6_wish : ByteArray := prog_1_method_2_code
def yX6_wish : MethodName := ⟨RX6, "wish", "(II)I"⟩
abbrev cX6_shared : ByteArray := prog_1_method_3_code
def yX6_shared : MethodName := ⟨RX6, "shared", "(I)I"⟩
abbrev cX6_addWish : ByteArray := prog_1_method_4_code
def yX6_addWish : MethodName := ⟨RX6, "addWish", "(IIZ)I"⟩
abbrev cX6_guest : ByteArray := prog_1_method_5_code
def yX6_guest : MethodName := ⟨RX6, "guest", "(I)I"⟩
abbrev cX6_price : ByteArray := prog_1_method_6_code
def yX6_price : MethodName := ⟨RX6, "price", "(II)I"⟩
abbrev cX6_strike : ByteArray := prog_1_method_7_code
def yX6_strike : MethodName := ⟨RX6, "strike", "(I)I"⟩
abbrev cX6_apart : ByteArray := prog_1_method_8_code
def yX6_apart : MethodName := ⟨RX6, "apart", "(I)I"⟩
abbrev cX6_join : ByteArray := prog_1_method_9_code
def yX6_join : MethodName := ⟨RX6, "join", "(I)I"⟩
abbrev cX6_hold : ByteArray := prog_1_method_10_code
def yX6_hold : MethodName := ⟨RX6, "hold", "(IIII)I"⟩
abbrev cX6_buy : ByteArray := prog_1_method_11_code
def yX6_buy : MethodName := ⟨RX6, "buy", "(III)I"⟩
abbrev cX6_giveBack : ByteArray := prog_1_method_12_code
def yX6_giveBack : MethodName := ⟨RX6, "giveBack", "(II)I"⟩
abbrev cX6_pledge : ByteArray := prog_1_method_13_code
def yX6_pledge : MethodName := ⟨RX6, "pledge", "(III)I"⟩
abbrev cX6_pass : ByteArray := prog_1_method_14_code
def yX6_pass : MethodName := ⟨RX6, "pass", "(I)I"⟩
abbrev cX6_ofWish : ByteArray := prog_1_method_16_code
def yX6_ofWish : MethodName := ⟨RX6, "ofWish", "(II)I"⟩
abbrev cX6_ofGuest : ByteArray := prog_1_method_17_code
def yX6_ofGuest : MethodName := ⟨RX6, "ofGuest", "(II)I"⟩
abbrev cX6_left : ByteArray := prog_1_method_18_code
def yX6_left : MethodName := ⟨RX6, "left", "(II)I"⟩
abbrev cX6_ofTill : ByteArray := prog_1_method_19_code
def yX6_ofTill : MethodName := ⟨RX6, "ofTill", "(II)I"⟩
abbrev cX6_ofGift : ByteArray := prog_1_method_20_code
def yX6_ofGift : MethodName := ⟨RX6, "ofGift", "(II)I"⟩
abbrev cX6_shop : ByteArray := prog_1_method_21_code
def yX6_shop : MethodName := ⟨RX6, "shop", "(I)I"⟩
abbrev cX6_wouldTake : ByteArray := prog_1_method_23_code
def yX6_wouldTake : MethodName := ⟨RX6, "wouldTake", "(I)I"⟩
abbrev cX6_hint : ByteArray := prog_1_method_24_code
def yX6_hint : MethodName := ⟨RX6, "hint", "(II)I"⟩
abbrev cX6_isSound : ByteArray := prog_1_method_25_code
def yX6_isSound : MethodName := ⟨RX6, "isSound", "()Z"⟩
abbrev cX6_digest : ByteArray := prog_1_method_26_code
def yX6_digest : MethodName := ⟨RX6, "digest", "()J"⟩
abbrev cX6_digestTill : ByteArray := prog_1_method_27_code
def yX6_digestTill : MethodName := ⟨RX6, "digestTill", "(JI)J"⟩
abbrev cX6_checkTill : ByteArray := prog_1_method_28_code
def yX6_checkTill : MethodName := ⟨RX6, "checkTill", "(I)V"⟩
abbrev cX6_wishNumbered : ByteArray := prog_1_method_29_code
def yX6_wishNumbered : MethodName := ⟨RX6, "wishNumbered", "(I)LTureenlist$Wish;"⟩
abbrev cX6_guestNumbered : ByteArray := prog_1_method_30_code
def yX6_guestNumbered : MethodName := ⟨RX6, "guestNumbered", "(I)LTureenlist$Guest;"⟩
abbrev cX6_refuseIfCalledOff : ByteArray := prog_1_method_31_code
def yX6_refuseIfCalledOff : MethodName := ⟨RX6, "refuseIfCalledOff", "()V"⟩
abbrev cX6_refuseIfSettled : ByteArray := prog_1_method_32_code
def yX6_refuseIfSettled : MethodName := ⟨RX6, "refuseIfSettled", "(LTureenlist$Wish;)V"⟩
abbrev cX6_pay : ByteArray := prog_1_method_33_code
def yX6_pay : MethodName := ⟨RX6, "pay", "(LTureenlist$Guest;I)V"⟩
abbrev cX6_payBack : ByteArray := prog_1_method_34_code
def yX6_payBack : MethodName := ⟨RX6, "payBack", "(LTureenlist$Guest;I)V"⟩
abbrev cX6_endGift : ByteArray := prog_1_method_35_code
def yX6_endGift : MethodName := ⟨RX6, "endGift", "(LTureenlist$Gift;I)I"⟩
abbrev cX6_sendPledgesBack : ByteArray := prog_1_method_36_code
def yX6_sendPledgesBack : MethodName := ⟨RX6, "sendPledgesBack", "(LTureenlist$Wish;I)I"⟩
abbrev cX6_isJoined : ByteArray := prog_1_method_37_code
def yX6_isJoined : MethodName := ⟨RX6, "isJoined", "(I)Z"⟩
abbrev cX6_showAllDeeds : ByteArray := prog_1_method_38_code
def yX6_showAllDeeds : MethodName := ⟨RX6, "showAllDeeds", "()V"⟩
abbrev cX6_tooManyWith : ByteArray := prog_1_method_39_code
def yX6_tooManyWith : MethodName := ⟨RX6, "tooManyWith", "(LTureenlist$Wish;I)I"⟩
abbrev cX6_takeBackTooMany : ByteArray := prog_1_method_40_code
def yX6_takeBackTooMany : MethodName := ⟨RX6, "takeBackTooMany", "(LTureenlist$Wish;I)I"⟩
abbrev cX6_takeBackLast : ByteArray := prog_1_method_41_code
def yX6_takeBackLast : MethodName := ⟨RX6, "takeBackLast", "(LTureenlist$Wish;)V"⟩
abbrev cX6_keptOfSeenAt : ByteArray := prog_1_method_42_code
def yX6_keptOfSeenAt : MethodName := ⟨RX6, "keptOfSeenAt", "(ILTureenlist$Wish;)I"⟩
abbrev cX6_leftAt : ByteArray := prog_1_method_43_code
def yX6_leftAt : MethodName := ⟨RX6, "leftAt", "(ILTureenlist$Wish;)I"⟩
abbrev cX6_allLeftAt : ByteArray := prog_1_method_44_code
def yX6_allLeftAt : MethodName := ⟨RX6, "allLeftAt", "(I)I"⟩
abbrev cX6_takePiece : ByteArray := prog_1_method_45_code
def yX6_takePiece : MethodName := ⟨RX6, "takePiece", "(ILTureenlist$Guest;LTureenlist$Wish;)V"⟩
abbrev cX6_servingHold : ByteArray := prog_1_method_46_code
def yX6_servingHold : MethodName := ⟨RX6, "servingHold", "(ILTureenlist$Guest;LTureenlist$Wish;)I"⟩
abbrev cX6_takeStock : ByteArray := prog_1_method_47_code
def yX6_takeStock : MethodName := ⟨RX6, "takeStock", "(I)V"⟩
abbrev cX6_guestsWithoutPart : ByteArray := prog_1_method_48_code
def yX6_guestsWithoutPart : MethodName := ⟨RX6, "guestsWithoutPart", "()I"⟩
abbrev cX6_fillBy : ByteArray := prog_1_method_49_code
def yX6_fillBy : MethodName := ⟨RX6, "fillBy", "(II)I"⟩
abbrev cX6_buyersAbove : ByteArray := prog_1_method_50_code
def yX6_buyersAbove : MethodName := ⟨RX6, "buyersAbove", "(II)I"⟩
abbrev cX6_stockWithin : ByteArray := prog_1_method_51_code
def yX6_stockWithin : MethodName := ⟨RX6, "stockWithin", "(II)I"⟩
abbrev cX6_oneIf : ByteArray := prog_1_method_52_code
def yX6_oneIf : MethodName := ⟨RX6, "oneIf", "(Z)I"⟩
abbrev cX6_giftsNow : ByteArray := prog_1_method_53_code
def yX6_giftsNow : MethodName := ⟨RX6, "giftsNow", "(I)I"⟩
abbrev cX6_giftsOf : ByteArray := prog_1_method_54_code
def yX6_giftsOf : MethodName := ⟨RX6, "giftsOf", "(LTureenlist$Wish;I)I"⟩
abbrev cX6_giftsBy : ByteArray := prog_1_method_55_code
def yX6_giftsBy : MethodName := ⟨RX6, "giftsBy", "(LTureenlist$Guest;I)I"⟩
abbrev cX6_keptBoughtAt : ByteArray := prog_1_method_56_code
def yX6_keptBoughtAt : MethodName := ⟨RX6, "keptBoughtAt", "(I)I"⟩
abbrev cX6_keptSeenAt : ByteArray := prog_1_method_57_code
def yX6_keptSeenAt : MethodName := ⟨RX6, "keptSeenAt", "(I)I"⟩
abbrev cX6_holdsStanding : ByteArray := prog_1_method_58_code
def yX6_holdsStanding : MethodName := ⟨RX6, "holdsStanding", "()I"⟩
abbrev cX6_holdsStandingOf : ByteArray := prog_1_method_59_code
def yX6_holdsStandingOf : MethodName := ⟨RX6, "holdsStandingOf", "(LTureenlist$Guest;)I"⟩
abbrev cX6_holdsStandingSeenAt : ByteArray := prog_1_method_60_code
def yX6_holdsStandingSeenAt : MethodName := ⟨RX6, "holdsStandingSeenAt", "(I)I"⟩
abbrev cX6_paidForKeptBy : ByteArray := prog_1_method_61_code
def yX6_paidForKeptBy : MethodName := ⟨RX6, "paidForKeptBy", "(LTureenlist$Guest;)I"⟩
abbrev cX6_paidForKept : ByteArray := prog_1_method_62_code
def yX6_paidForKept : MethodName := ⟨RX6, "paidForKept", "()I"⟩
abbrev cX6_pledgedBy : ByteArray := prog_1_method_63_code
def yX6_pledgedBy : MethodName := ⟨RX6, "pledgedBy", "(LTureenlist$Guest;)I"⟩
abbrev cX6_pledgedNow : ByteArray := prog_1_method_64_code
def yX6_pledgedNow : MethodName := ⟨RX6, "pledgedNow", "()I"⟩
abbrev cX6_noneTooManyIfAllJoined : ByteArray := prog_1_method_65_code
def yX6_noneTooManyIfAllJoined : MethodName := ⟨RX6, "noneTooManyIfAllJoined", "()Z"⟩
abbrev cX6_noPurseBelowZero : ByteArray := prog_1_method_66_code
def yX6_noPurseBelowZero : MethodName := ⟨RX6, "noPurseBelowZero", "()Z"⟩
abbrev cX6_noOrderedLacks : ByteArray := prog_1_method_67_code
def yX6_noOrderedLacks : MethodName := ⟨RX6, "noOrderedLacks", "()Z"⟩
abbrev cX6_joinedTillsSeeAlike : ByteArray := prog_1_method_68_code
def yX6_joinedTillsSeeAlike : MethodName := ⟨RX6, "joinedTillsSeeAlike", "()Z"⟩
def RX7 : String := "TureenlistModel$Deed"
def TX7 : u_T := fun k => match k with
  | _ => ("", "", "", false)
def tyX7 : Nat → FieldType := fun k => match k with
  | _ => .int
abbrev wsX70 : List Cond := u_ws RX7 TX7 0
theorem nmX7 : ∀ a, a < 0 → ∀ b, b < 0 → a ≠ b → (TX7 a).2.1 ≠ (TX7 b).2.1 := by decide +kernel
theorem tyX7_ok : ∀ k, k < 0 → parseFieldDescriptor (TX7 k).2.2.1 = some (tyX7 k) := by decide +kernel
def RX8 : String := "TureenlistModel$Gift"
def TX8 : u_T := fun k => match k with
  | _ => ("", "", "", false)
def tyX8 : Nat → FieldType := fun k => match k with
  | _ => .int
abbrev wsX80 : List Cond := u_ws RX8 TX8 0
theorem nmX8 : ∀ a, a < 0 → ∀ b, b < 0 → a ≠ b → (TX8 a).2.1 ≠ (TX8 b).2.1 := by decide +kernel
theorem tyX8_ok : ∀ k, k < 0 → parseFieldDescriptor (TX8 k).2.2.1 = some (tyX8 k) := by decide +kernel
def RX9 : String := "TureenlistModel$Hold"
def TX9 : u_T := fun k => match k with
  | _ => ("", "", "", false)
def tyX9 : Nat → FieldType := fun k => match k with
  | _ => .int
abbrev wsX90 : List Cond := u_ws RX9 TX9 0
theorem nmX9 : ∀ a, a < 0 → ∀ b, b < 0 → a ≠ b → (TX9 a).2.1 ≠ (TX9 b).2.1 := by decide +kernel
theorem tyX9_ok : ∀ k, k < 0 → parseFieldDescriptor (TX9 k).2.2.1 = some (tyX9 k) := by decide +kernel
def RX10 : String := "TureenlistModel$Wish"
def TX10 : u_T := fun k => match k with
  | _ => ("", "", "", false)
def tyX10 : Nat → FieldType := fun k => match k with
  | _ => .int
abbrev wsX100 : List Cond := u_ws RX10 TX10 0
theorem nmX10 : ∀ a, a < 0 → ∀ b, b < 0 → a ≠ b → (TX10 a).2.1 ≠ (TX10 b).2.1 := by decide +kernel
theorem tyX10_ok : ∀ k, k < 0 → parseFieldDescriptor (TX10 k).2.2.1 = some (tyX10 k) := by decide +kernel
def RX11 : String := "TureenlistModel"
def TX11 : u_T := fun k => match k with
  | _ => ("", "", "", false)
def tyX11 : Nat → FieldType := fun k => match k with
  | _ => .int
abbrev wsX110 : List Cond := u_ws RX11 TX11 0
theorem nmX11 : ∀ a, a < 0 → ∀ b, b < 0 → a ≠ b → (TX11 a).2.1 ≠ (TX11 b).2.1 := by decide +kernel
theorem tyX11_ok : ∀ k, k < 0 → parseFieldDescriptor (TX11 k).2.2.1 = some (tyX11 k) := by decide +kernel
def RJx145de : String := "java/io/Serializable"
def TJx145de : u_T := fun k => match k with
  | _ => ("", "", "", false)
def tyJx145de : Nat → FieldType := fun k => match k with
  | _ => .int
abbrev wsJx145de0 : List Cond := u_ws RJx145de TJx145de 0
theorem nmJx145de : ∀ a, a < 0 → ∀ b, b < 0 → a ≠ b → (TJx145de a).2.1 ≠ (TJx145de b).2.1 := by decide +kernel
theorem tyJx145de_ok : ∀ k, k < 0 → parseFieldDescriptor (TJx145de k).2.2.1 = some (tyJx145de k) := by decide +kernel
def RJx8e188 : String := "java/lang/Cloneable"
def TJx8e188 : u_T := fun k => match k with
  | _ => ("", "", "", false)
def tyJx8e188 : Nat → FieldType := fun k => match k with
  | _ => .int
abbrev wsJx8e1880 : List Cond := u_ws RJx8e188 TJx8e188 0
theorem nmJx8e188 : ∀ a, a < 0 → ∀ b, b < 0 → a ≠ b → (TJx8e188 a).2.1 ≠ (TJx8e188 b).2.1 := by decide +kernel
theorem tyJx8e188_ok : ∀ k, k < 0 → parseFieldDescriptor (TJx8e188 k).2.2.1 = some (tyJx8e188 k) := by decide +kernel
def RJ6 : String := "java/lang/Integer"
def TJ6 : u_T := fun k => match k with
  | _ => ("", "", "", false)
def tyJ6 : Nat → FieldType := fun k => match k with
  | _ => .int
abbrev wsJ60 : List Cond := u_ws RJ6 TJ6 0
theorem nmJ6 : ∀ a, a < 0 → ∀ b, b < 0 → a ≠ b → (TJ6 a).2.1 ≠ (TJ6 b).2.1 := by decide +kernel
theorem tyJ6_ok : ∀ k, k < 0 → parseFieldDescriptor (TJ6 k).2.2.1 = some (tyJ6 k) := by decide +kernel
abbrev cJ6_bitCount_0f7a4 : ByteArray := prog_20_method_49_code
def yJ6_bitCount_0f7a4 : MethodName := ⟨RJ6, "bitCount", "(I)I"⟩
def RJxab1ab : String := "java/lang/Iterable"
def TJxab1ab : u_T := fun k => match k with
  | _ => ("", "", "", false)
def tyJxab1ab : Nat → FieldType := fun k => match k with
  | _ => .int
abbrev wsJxab1ab0 : List Cond := u_ws RJxab1ab TJxab1ab 0
theorem nmJxab1ab : ∀ a, a < 0 → ∀ b, b < 0 → a ≠ b → (TJxab1ab a).2.1 ≠ (TJxab1ab b).2.1 := by decide +kernel
theorem tyJxab1ab_ok : ∀ k, k < 0 → parseFieldDescriptor (TJxab1ab k).2.2.1 = some (tyJxab1ab k) := by decide +kernel
def RJ9 : String := "java/lang/Math"
def TJ9 : u_T := fun k => match k with
  | _ => ("", "", "", false)
def tyJ9 : Nat → FieldType := fun k => match k with
  | _ => .int
abbrev wsJ90 : List Cond := u_ws RJ9 TJ9 0
theorem nmJ9 : ∀ a, a < 0 → ∀ b, b < 0 → a ≠ b → (TJ9 a).2.1 ≠ (TJ9 b).2.1 := by decide +kernel
theorem tyJ9_ok : ∀ k, k < 0 → parseFieldDescriptor (TJ9 k).2.2.1 = some (tyJ9 k) := by decide +kernel
abbrev cJ9_max_7cf53 : ByteArray := prog_22_method_65_code
def yJ9_max_7cf53 : MethodName := ⟨RJ9, "max", "(II)I"⟩
abbrev cJ9_min_7cf53 : ByteArray := prog_22_method_69_code
def yJ9_min_7cf53 : MethodName := ⟨RJ9, "min", "(II)I"⟩
def RJ0 : String := "java/lang/String"
def TJ0 : u_T := fun k => match k with
  | _ => ("", "", "", false)
def tyJ0 : Nat → FieldType := fun k => match k with
  | _ => .int
abbrev wsJ00 : List Cond := u_ws RJ0 TJ0 0
theorem nmJ0 : ∀ a, a < 0 → ∀ b, b < 0 → a ≠ b → (TJ0 a).2.1 ≠ (TJ0 b).2.1 := by decide +kernel
theorem tyJ0_ok : ∀ k, k < 0 → parseFieldDescriptor (TJ0 k).2.2.1 = some (tyJ0 k) := by decide +kernel
def RJ10 : String := "java/lang/System"
def TJ10 : u_T := fun k => match k with
  | _ => ("", "", "", false)
def tyJ10 : Nat → FieldType := fun k => match k with
  | _ => .int
abbrev wsJ100 : List Cond := u_ws RJ10 TJ10 0
theorem nmJ10 : ∀ a, a < 0 → ∀ b, b < 0 → a ≠ b → (TJ10 a).2.1 ≠ (TJ10 b).2.1 := by decide +kernel
theorem tyJ10_ok : ∀ k, k < 0 → parseFieldDescriptor (TJ10 k).2.2.1 = some (tyJ10 k) := by decide +kernel
def RJxa1e45 : String := "java/util/AbstractCollection"
def TJxa1e45 : u_T := fun k => match k with
  | _ => ("", "", "", false)
def tyJxa1e45 : Nat → FieldType := fun k => match k with
  | _ => .int
abbrev wsJxa1e450 : List Cond := u_ws RJxa1e45 TJxa1e45 0
theorem nmJxa1e45 : ∀ a, a < 0 → ∀ b, b < 0 → a ≠ b → (TJxa1e45 a).2.1 ≠ (TJxa1e45 b).2.1 := by decide +kernel
theorem tyJxa1e45_ok : ∀ k, k < 0 → parseFieldDescriptor (TJxa1e45 k).2.2.1 = some (tyJxa1e45 k) := by decide +kernel
abbrev cJxa1e45_init_da8c8 : ByteArray := prog_27_method_1_code
def yJxa1e45_init_da8c8 : MethodName := ⟨RJxa1e45, "<init>", "()V"⟩
def RJxc12de : String := "java/util/AbstractList"
def TJxc12de : u_T := fun k => match k with
  | _ => ("", "", "", false)
def tyJxc12de : Nat → FieldType := fun k => match k with
  | _ => .int
abbrev wsJxc12de0 : List Cond := u_ws RJxc12de TJxc12de 0
theorem nmJxc12de : ∀ a, a < 0 → ∀ b, b < 0 → a ≠ b → (TJxc12de a).2.1 ≠ (TJxc12de b).2.1 := by decide +kernel
theorem tyJxc12de_ok : ∀ k, k < 0 → parseFieldDescriptor (TJxc12de k).2.2.1 = some (tyJxc12de k) := by decide +kernel
abbrev cJxc12de_init_da8c8 : ByteArray := prog_28_method_1_code
def yJxc12de_init_da8c8 : MethodName := ⟨RJxc12de, "<init>", "()V"⟩
def RJx4a65c : String := "java/util/ArrayList"
def TJx4a65c : u_T := fun k => match k with
  | 0 => ("java/util/AbstractList", "modCount", "I", false)
  | 1 => ("java/util/ArrayList", "elementData", "[Ljava/lang/Object;", false)
  | _ => ("java/util/ArrayList", "size", "I", false)
def tyJx4a65c : Nat → FieldType := fun k => match k with
  | 0 => .int
  | 1 => .array (.object "java/lang/Object")
  | _ => .int
abbrev wsJx4a65c0 : List Cond := u_ws RJx4a65c TJx4a65c 3
theorem nmJx4a65c : ∀ a, a < 3 → ∀ b, b < 3 → a ≠ b → (TJx4a65c a).2.1 ≠ (TJx4a65c b).2.1 := by decide +kernel
theorem tyJx4a65c_ok : ∀ k, k < 3 → parseFieldDescriptor (TJx4a65c k).2.2.1 = some (tyJx4a65c k) := by decide +kernel
abbrev cJx4a65c_init_da8c8 : ByteArray := prog_29_method_2_code
def yJx4a65c_init_da8c8 : MethodName := ⟨RJx4a65c, "<init>", "()V"⟩
abbrev cJx4a65c_grow_92f84 : ByteArray := prog_29_method_6_code
def yJx4a65c_grow_92f84 : MethodName := ⟨RJx4a65c, "grow", "(I)[Ljava/lang/Object;"⟩
abbrev cJx4a65c_grow_d5877 : ByteArray := prog_29_method_7_code
def yJx4a65c_grow_d5877 : MethodName := ⟨RJx4a65c, "grow", "()[Ljava/lang/Object;"⟩
abbrev cJx4a65c_size_8abf5 : ByteArray := prog_29_method_8_code
def yJx4a65c_size_8abf5 : MethodName := ⟨RJx4a65c, "size", "()I"⟩
abbrev cJx4a65c_elementData_915e3 : ByteArray := prog_29_method_18_code
def yJx4a65c_elementData_915e3 : MethodName := ⟨RJx4a65c, "elementData", "(I)Ljava/lang/Object;"⟩
abbrev cJx4a65c_get_915e3 : ByteArray := prog_29_method_20_code
def yJx4a65c_get_915e3 : MethodName := ⟨RJx4a65c, "get", "(I)Ljava/lang/Object;"⟩
abbrev cJx4a65c_add_72be8 : ByteArray := prog_29_method_24_code
def yJx4a65c_add_72be8 : MethodName := ⟨RJx4a65c, "add", "(Ljava/lang/Object;[Ljava/lang/Object;I)V"⟩
abbrev cJx4a65c_add_9ea2d : ByteArray := prog_29_method_25_code
def yJx4a65c_add_9ea2d : MethodName := ⟨RJx4a65c, "add", "(Ljava/lang/Object;)Z"⟩
abbrev cJx4a65c_remove_915e3 : ByteArray := prog_29_method_29_code
def yJx4a65c_remove_915e3 : MethodName := ⟨RJx4a65c, "remove", "(I)Ljava/lang/Object;"⟩
abbrev cJx4a65c_fastRemove_b59b0 : ByteArray := prog_29_method_39_code
def yJx4a65c_fastRemove_b59b0 : MethodName := ⟨RJx4a65c, "fastRemove", "([Ljava/lang/Object;I)V"⟩
def RJ7 : String := "java/util/Arrays"
def TJ7 : u_T := fun k => match k with
  | _ => ("", "", "", false)
def tyJ7 : Nat → FieldType := fun k => match k with
  | _ => .int
abbrev wsJ70 : List Cond := u_ws RJ7 TJ7 0
theorem nmJ7 : ∀ a, a < 0 → ∀ b, b < 0 → a ≠ b → (TJ7 a).2.1 ≠ (TJ7 b).2.1 := by decide +kernel
theorem tyJ7_ok : ∀ k, k < 0 → parseFieldDescriptor (TJ7 k).2.2.1 = some (tyJ7 k) := by decide +kernel
abbrev cJ7_copyOf_1904c : ByteArray := prog_30_method_119_code
def yJ7_copyOf_1904c : MethodName := ⟨RJ7, "copyOf", "([Ljava/lang/Object;I)[Ljava/lang/Object;"⟩
abbrev cJ7_copyOf_6403c : ByteArray := prog_30_method_120_code
def yJ7_copyOf_6403c : MethodName := ⟨RJ7, "copyOf", "([Ljava/lang/Object;ILjava/lang/Class;)[Ljava/lang/Object;"⟩
def RJx5ef63 : String := "java/util/Collection"
def TJx5ef63 : u_T := fun k => match k with
  | _ => ("", "", "", false)
def tyJx5ef63 : Nat → FieldType := fun k => match k with
  | _ => .int
abbrev wsJx5ef630 : List Cond := u_ws RJx5ef63 TJx5ef63 0
theorem nmJx5ef63 : ∀ a, a < 0 → ∀ b, b < 0 → a ≠ b → (TJx5ef63 a).2.1 ≠ (TJx5ef63 b).2.1 := by decide +kernel
theorem tyJx5ef63_ok : ∀ k, k < 0 → parseFieldDescriptor (TJx5ef63 k).2.2.1 = some (tyJx5ef63 k) := by decide +kernel
def RJxbd725 : String := "java/util/List"
def TJxbd725 : u_T := fun k => match k with
  | _ => ("", "", "", false)
def tyJxbd725 : Nat → FieldType := fun k => match k with
  | _ => .int
abbrev wsJxbd7250 : List Cond := u_ws RJxbd725 TJxbd725 0
theorem nmJxbd725 : ∀ a, a < 0 → ∀ b, b < 0 → a ≠ b → (TJxbd725 a).2.1 ≠ (TJxbd725 b).2.1 := by decide +kernel
theorem tyJxbd725_ok : ∀ k, k < 0 → parseFieldDescriptor (TJxbd725 k).2.2.1 = some (tyJxbd725 k) := by decide +kernel
def RJ15 : String := "java/util/Objects"
def TJ15 : u_T := fun k => match k with
  | _ => ("", "", "", false)
def tyJ15 : Nat → FieldType := fun k => match k with
  | _ => .int
abbrev wsJ150 : List Cond := u_ws RJ15 TJ15 0
theorem nmJ15 : ∀ a, a < 0 → ∀ b, b < 0 → a ≠ b → (TJ15 a).2.1 ≠ (TJ15 b).2.1 := by decide +kernel
theorem tyJ15_ok : ∀ k, k < 0 → parseFieldDescriptor (TJ15 k).2.2.1 = some (tyJ15 k) := by decide +kernel
abbrev cJ15_checkIndex_7cf53 : ByteArray := prog_33_method_17_code
def yJ15_checkIndex_7cf53 : MethodName := ⟨RJ15, "checkIndex", "(II)I"⟩
def RJxf0a74 : String := "java/util/RandomAccess"
def TJxf0a74 : u_T := fun k => match k with
  | _ => ("", "", "", false)
def tyJxf0a74 : Nat → FieldType := fun k => match k with
  | _ => .int
abbrev wsJxf0a740 : List Cond := u_ws RJxf0a74 TJxf0a74 0
theorem nmJxf0a74 : ∀ a, a < 0 → ∀ b, b < 0 → a ≠ b → (TJxf0a74 a).2.1 ≠ (TJxf0a74 b).2.1 := by decide +kernel
theorem tyJxf0a74_ok : ∀ k, k < 0 → parseFieldDescriptor (TJxf0a74 k).2.2.1 = some (tyJxf0a74 k) := by decide +kernel
def RJxa66e6 : String := "java/util/SequencedCollection"
def TJxa66e6 : u_T := fun k => match k with
  | _ => ("", "", "", false)
def tyJxa66e6 : Nat → FieldType := fun k => match k with
  | _ => .int
abbrev wsJxa66e60 : List Cond := u_ws RJxa66e6 TJxa66e6 0
theorem nmJxa66e6 : ∀ a, a < 0 → ∀ b, b < 0 → a ≠ b → (TJxa66e6 a).2.1 ≠ (TJxa66e6 b).2.1 := by decide +kernel
theorem tyJxa66e6_ok : ∀ k, k < 0 → parseFieldDescriptor (TJxa66e6 k).2.2.1 = some (tyJxa66e6 k) := by decide +kernel
def RJ8 : String := "jdk/internal/util/ArraysSupport"
def TJ8 : u_T := fun k => match k with
  | _ => ("", "", "", false)
def tyJ8 : Nat → FieldType := fun k => match k with
  | _ => .int
abbrev wsJ80 : List Cond := u_ws RJ8 TJ8 0
theorem nmJ8 : ∀ a, a < 0 → ∀ b, b < 0 → a ≠ b → (TJ8 a).2.1 ≠ (TJ8 b).2.1 := by decide +kernel
theorem tyJ8_ok : ∀ k, k < 0 → parseFieldDescriptor (TJ8 k).2.2.1 = some (tyJ8 k) := by decide +kernel
abbrev cJ8_newLength_cabcc : ByteArray := prog_36_method_27_code
def yJ8_newLength_cabcc : MethodName := ⟨RJ8, "newLength", "(III)I"⟩
abbrev cJ8_hugeLength_7cf53 : ByteArray := prog_36_method_28_code
def yJ8_hugeLength_7cf53 : MethodName := ⟨RJ8, "hugeLength", "(II)I"⟩
def RJ3 : String := "jdk/internal/util/Preconditions"
def TJ3 : u_T := fun k => match k with
  | _ => ("", "", "", false)
def tyJ3 : Nat → FieldType := fun k => match k with
  | _ => .int
abbrev wsJ30 : List Cond := u_ws RJ3 TJ3 0
theorem nmJ3 : ∀ a, a < 0 → ∀ b, b < 0 → a ≠ b → (TJ3 a).2.1 ≠ (TJ3 b).2.1 := by decide +kernel
theorem tyJ3_ok : ∀ k, k < 0 → parseFieldDescriptor (TJ3 k).2.2.1 = some (tyJ3 k) := by decide +kernel
abbrev cJ3_checkIndex_8e157 : ByteArray := prog_37_method_11_code
def yJ3_checkIndex_8e157 : MethodName := ⟨RJ3, "checkIndex", "(IILjava/util/function/BiFunction;)I"⟩
def RL : String := "TureenlistLaw"
abbrev cL_below : ByteArray := method_2_code
def yL_below : MethodName := ⟨RL, "below", "(II)I"⟩
abbrev cL_cell : ByteArray := method_3_code
def yL_cell : MethodName := ⟨RL, "cell", "([II)I"⟩
abbrev cL_shop : ByteArray := method_4_code
def yL_shop : MethodName := ⟨RL, "shop", "([I)LTureenlist;"⟩
abbrev cL_isDone : ByteArray := method_5_code
def yL_isDone : MethodName := ⟨RL, "isDone", "(LTureenlist;I)Z"⟩
abbrev cL_law : ByteArray := code
def yL_law : MethodName := ⟨RL, "law", "([I)Z"⟩
abbrev cL_isTaken : ByteArray := method_7_code
def yL_isTaken : MethodName := ⟨RL, "isTaken", "(LTureenlist;[I)Z"⟩
abbrev cL_isFair : ByteArray := method_8_code
def yL_isFair : MethodName := ⟨RL, "isFair", "(LTureenlist;II[I)Z"⟩
abbrev cL_arePence : ByteArray := method_9_code
def yL_arePence : MethodName := ⟨RL, "arePence", "(LTureenlist;)Z"⟩
def wsX0_init : List Cond := .code yX0_init cX0_init 5 none :: ([.methodLink RX0 1 objectInit, .instanceMethod objectInit, .code objectInit ⟨#[0xb1]⟩ 1 none, .fieldLink RX0 7 "Tureenlist$Deed" "of" "LTureenlist$Wish;", .fieldLink RX0 13 "Tureenlist$Deed" "by" "LTureenlist$Guest;", .fieldLink RX0 17 "Tureenlist$Deed" "till" "I", .fieldLink RX0 21 "Tureenlist$Deed" "since" "I", .fieldLink RX0 24 "Tureenlist$Deed" "seers" "I"] ++ wsX10 ++ wsX30)
def wsX0_isOpen : List Cond := .code yX0_isOpen cX0_isOpen 1 (some .boolean) :: ([.fieldLink RX0 27 "Tureenlist$Deed" "open" "Z"] ++ wsX10 ++ wsX30)
def wsX0_isSeenAt : List Cond := .code yX0_isSeenAt cX0_isSeenAt 2 (some .boolean) :: ([.fieldLink RX0 24 "Tureenlist$Deed" "seers" "I"] ++ wsX10 ++ wsX30)
def wsX0_showTo : List Cond := .code yX0_showTo cX0_showTo 2 none :: ([.fieldLink RX0 17 "Tureenlist$Deed" "till" "I", .fieldLink RX0 27 "Tureenlist$Deed" "open" "Z", .fieldLink RX0 24 "Tureenlist$Deed" "seers" "I"] ++ wsX10 ++ wsX30)
def wsX1_init : List Cond := .code yX1_init cX1_init 7 none :: ([.fieldLink RX1 9 "Tureenlist$Gift" "number" "I", .fieldLink RX1 15 "Tureenlist$Gift" "paid" "I", .fieldLink RX1 18 "Tureenlist$Gift" "state" "I", .methodLink RX1 3 yX0_init, .instanceMethod yX0_init, .initialized RX0, .code yX0_init cX0_init 5 none, .methodLink RX0 1 objectInit, .instanceMethod objectInit, .code objectInit ⟨#[0xb1]⟩ 1 none, .fieldLink RX0 7 "Tureenlist$Deed" "of" "LTureenlist$Wish;", .fieldLink RX0 13 "Tureenlist$Deed" "by" "LTureenlist$Guest;", .fieldLink RX0 17 "Tureenlist$Deed" "till" "I", .fieldLink RX0 21 "Tureenlist$Deed" "since" "I", .fieldLink RX0 24 "Tureenlist$Deed" "seers" "I"] ++ wsX10 ++ wsX30)
def wsX1_isKept : List Cond := .code yX1_isKept cX1_isKept 1 (some .boolean) :: ([.fieldLink RX1 18 "Tureenlist$Gift" "state" "I"] ++ wsX10)
def wsX1_isBehind : List Cond := .code yX1_isBehind cX1_isBehind 2 (some .boolean) :: ([.fieldLink RX1 21 "Tureenlist$Gift" "since" "I", .sameField "Tureenlist$Gift" "Tureenlist$Deed" "since" "I", .fieldLink RX1 24 "Tureenlist$Gift" "till" "I", .sameField "Tureenlist$Gift" "Tureenlist$Deed" "till" "I", .fieldLink RX1 9 "Tureenlist$Gift" "number" "I"] ++ wsX10 ++ wsX30)
def wsX2_init : List Cond := .code yX2_init cX2_init 3 none :: ([.methodLink RX2 1 objectInit, .instanceMethod objectInit, .code objectInit ⟨#[0xb1]⟩ 1 none, .fieldLink RX2 7 "Tureenlist$Guest" "number" "I", .fieldLink RX2 13 "Tureenlist$Guest" "purse" "I"] ++ wsX20)
def wsX3_init : List Cond := .code yX3_init cX3_init 6 none :: ([.fieldLink RX3 7 "Tureenlist$Hold" "minutes" "I", .methodLink RX3 1 yX0_init, .instanceMethod yX0_init, .initialized RX0, .code yX0_init cX0_init 5 none, .methodLink RX0 1 objectInit, .instanceMethod objectInit, .code objectInit ⟨#[0xb1]⟩ 1 none, .fieldLink RX0 7 "Tureenlist$Deed" "of" "LTureenlist$Wish;", .fieldLink RX0 13 "Tureenlist$Deed" "by" "LTureenlist$Guest;", .fieldLink RX0 17 "Tureenlist$Deed" "till" "I", .fieldLink RX0 21 "Tureenlist$Deed" "since" "I", .fieldLink RX0 24 "Tureenlist$Deed" "seers" "I"] ++ wsX30 ++ wsX10)
def wsX3_standsAt : List Cond := .code yX3_standsAt cX3_standsAt 2 (some .boolean) :: ([.fieldLink RX3 13 "Tureenlist$Hold" "used" "Z", .fieldLink RX3 17 "Tureenlist$Hold" "of" "LTureenlist$Wish;", .sameField "Tureenlist$Hold" "Tureenlist$Deed" "of" "LTureenlist$Wish;", .fieldLink RX3 21 "Tureenlist$Wish" "struck" "Z", .fieldLink RX3 26 "Tureenlist$Hold" "since" "I", .sameField "Tureenlist$Hold" "Tureenlist$Deed" "since" "I", .fieldLink RX3 7 "Tureenlist$Hold" "minutes" "I"] ++ wsX30 ++ wsX10 ++ wsX50)
def wsX4_init : List Cond := .code yX4_init cX4_init 3 none :: ([.methodLink RX4 1 objectInit, .instanceMethod objectInit, .code objectInit ⟨#[0xb1]⟩ 1 none, .fieldLink RX4 7 "Tureenlist$Pledge" "by" "LTureenlist$Guest;", .fieldLink RX4 13 "Tureenlist$Pledge" "pence" "I"] ++ wsX40)
def wsJxa1e45_init_da8c8 : List Cond := .code yJxa1e45_init_da8c8 cJxa1e45_init_da8c8 1 none :: ([.methodLink RJxa1e45 1 objectInit, .instanceMethod objectInit, .code objectInit ⟨#[0xb1]⟩ 1 none])
def wsJxc12de_init_da8c8 : List Cond := .code yJxc12de_init_da8c8 cJxc12de_init_da8c8 1 none :: ([.fieldLink RJxc12de 7 "java/util/AbstractList" "modCount" "I", .methodLink RJxc12de 1 yJxa1e45_init_da8c8, .instanceMethod yJxa1e45_init_da8c8, .initialized RJxa1e45, .code yJxa1e45_init_da8c8 cJxa1e45_init_da8c8 1 none, .methodLink RJxa1e45 1 objectInit, .instanceMethod objectInit, .code objectInit ⟨#[0xb1]⟩ 1 none] ++ wsJx4a65c0)
def wsJx4a65c_init_da8c8 : List Cond := .code yJx4a65c_init_da8c8 cJx4a65c_init_da8c8 1 none :: ([.fieldLink RJx4a65c 39 "java/util/ArrayList" "DEFAULTCAPACITY_EMPTY_ELEMENTDATA" "[Ljava/lang/Object;", .fieldLink RJx4a65c 9 "java/util/ArrayList" "elementData" "[Ljava/lang/Object;", .methodLink RJx4a65c 1 yJxc12de_init_da8c8, .instanceMethod yJxc12de_init_da8c8, .initialized RJxc12de, .code yJxc12de_init_da8c8 cJxc12de_init_da8c8 1 none, .fieldLink RJxc12de 7 "java/util/AbstractList" "modCount" "I", .methodLink RJxc12de 1 yJxa1e45_init_da8c8, .instanceMethod yJxa1e45_init_da8c8, .initialized RJxa1e45, .code yJxa1e45_init_da8c8 cJxa1e45_init_da8c8 1 none, .methodLink RJxa1e45 1 objectInit, .instanceMethod objectInit, .code objectInit ⟨#[0xb1]⟩ 1 none] ++ wsJx4a65c0)
def wsX5_init_r1 : List Cond := [Cond.methodLink RX5 1 objectInit, Cond.instanceMethod objectInit, Cond.code objectInit ⟨#[0xb1]⟩ 1 none, Cond.fieldLink RX5 7 "Tureenlist$Wish" "number" "I", Cond.fieldLink RX5 13 "Tureenlist$Wish" "count" "I", Cond.fieldLink RX5 16 "Tureenlist$Wish" "cost" "I", Cond.fieldLink RX5 19 "Tureenlist$Wish" "forMany" "Z", Cond.classLink RX5 23 RJx4a65c, Cond.instantiable RJx4a65c 3, Cond.initialized RJx4a65c, Cond.fieldLink RX5 26 "Tureenlist$Wish" "pledges" "Ljava/util/ArrayList;", Cond.methodLink RX5 25 yJx4a65c_init_da8c8, Cond.instanceMethod yJx4a65c_init_da8c8, Cond.code yJx4a65c_init_da8c8 cJx4a65c_init_da8c8 1 none, Cond.fieldLink RJx4a65c 39 "java/util/ArrayList" "DEFAULTCAPACITY_EMPTY_ELEMENTDATA" "[Ljava/lang/Object;", Cond.fieldLink RJx4a65c 9 "java/util/ArrayList" "elementData" "[Ljava/lang/Object;", Cond.methodLink RJx4a65c 1 yJxc12de_init_da8c8, Cond.instanceMethod yJxc12de_init_da8c8, Cond.initialized RJxc12de, Cond.code yJxc12de_init_da8c8 cJxc12de_init_da8c8 1 none, Cond.fieldLink RJxc12de 7 "java/util/AbstractList" "modCount" "I", Cond.methodLink RJxc12de 1 yJxa1e45_init_da8c8, Cond.instanceMethod yJxa1e45_init_da8c8, Cond.initialized RJxa1e45]
def wsX5_init_r2 : List Cond := [Cond.code yJxa1e45_init_da8c8 cJxa1e45_init_da8c8 1 none, Cond.methodLink RJxa1e45 1 objectInit]
def wsX5_init : List Cond := .code yX5_init cX5_init 5 none :: ((wsX5_init_r1 ++ wsX5_init_r2) ++ wsX50 ++ wsJx4a65c0)
def wsJx4a65c_size_8abf5 : List Cond := .code yJx4a65c_size_8abf5 cJx4a65c_size_8abf5 1 (some .int) :: ([.fieldLink RJx4a65c 48 "java/util/ArrayList" "size" "I"] ++ wsJx4a65c0)
def wsJ3_checkIndex_8e157 : List Cond := .code yJ3_checkIndex_8e157 cJ3_checkIndex_8e157 3 (some .int) :: ([])
def wsJ15_checkIndex_7cf53 : List Cond := .code yJ15_checkIndex_7cf53 cJ15_checkIndex_7cf53 2 (some .int) :: ([.methodLink RJ15 105 yJ3_checkIndex_8e157, .static yJ3_checkIndex_8e157, .initialized RJ3, .code yJ3_checkIndex_8e157 cJ3_checkIndex_8e157 3 (some .int)])
def wsJx4a65c_elementData_915e3 : List Cond := .code yJx4a65c_elementData_915e3 cJx4a65c_elementData_915e3 2 (some (.object "java/lang/Object")) :: ([.fieldLink RJx4a65c 9 "java/util/ArrayList" "elementData" "[Ljava/lang/Object;"] ++ wsJx4a65c0)
def wsJx4a65c_get_915e3 : List Cond := .code yJx4a65c_get_915e3 cJx4a65c_get_915e3 2 (some (.object "java/lang/Object")) :: ([.fieldLink RJx4a65c 48 "java/util/ArrayList" "size" "I", .methodLink RJx4a65c 118 yJ15_checkIndex_7cf53, .static yJ15_checkIndex_7cf53, .initialized RJ15, .code yJ15_checkIndex_7cf53 cJ15_checkIndex_7cf53 2 (some .int), .methodLink RJ15 105 yJ3_checkIndex_8e157, .static yJ3_checkIndex_8e157, .initialized RJ3, .code yJ3_checkIndex_8e157 cJ3_checkIndex_8e157 3 (some .int), .methodLink RJx4a65c 123 yJx4a65c_elementData_915e3, .instanceMethod yJx4a65c_elementData_915e3, .selects RJx4a65c yJx4a65c_elementData_915e3 yJx4a65c_elementData_915e3, .initialized RJx4a65c, .code yJx4a65c_elementData_915e3 cJx4a65c_elementData_915e3 2 (some (.object "java/lang/Object")), .fieldLink RJx4a65c 9 "java/util/ArrayList" "elementData" "[Ljava/lang/Object;"] ++ wsJx4a65c0)
def wsX5_pledged_r1 : List Cond := [Cond.fieldLink RX5 26 "Tureenlist$Wish" "pledges" "Ljava/util/ArrayList;", Cond.classLink RX5 38 "Tureenlist$Pledge", Cond.fieldLink RX5 40 "Tureenlist$Pledge" "pence" "I", Cond.methodLink RX5 30 yJx4a65c_size_8abf5, Cond.instanceMethod yJx4a65c_size_8abf5, Cond.selects RJx4a65c yJx4a65c_size_8abf5 yJx4a65c_size_8abf5, Cond.initialized RJx4a65c, Cond.code yJx4a65c_size_8abf5 cJx4a65c_size_8abf5 1 (some .int), Cond.fieldLink RJx4a65c 48 "java/util/ArrayList" "size" "I", Cond.methodLink RX5 34 yJx4a65c_get_915e3, Cond.instanceMethod yJx4a65c_get_915e3, Cond.selects RJx4a65c yJx4a65c_get_915e3 yJx4a65c_get_915e3, Cond.code yJx4a65c_get_915e3 cJx4a65c_get_915e3 2 (some (.object "java/lang/Object")), Cond.methodLink RJx4a65c 118 yJ15_checkIndex_7cf53, Cond.static yJ15_checkIndex_7cf53, Cond.initialized RJ15, Cond.code yJ15_checkIndex_7cf53 cJ15_checkIndex_7cf53 2 (some .int), Cond.methodLink RJ15 105 yJ3_checkIndex_8e157, Cond.static yJ3_checkIndex_8e157, Cond.initialized RJ3, Cond.code yJ3_checkIndex_8e157 cJ3_checkIndex_8e157 3 (some .int), Cond.methodLink RJx4a65c 123 yJx4a65c_elementData_915e3, Cond.instanceMethod yJx4a65c_elementData_915e3, Cond.selects RJx4a65c yJx4a65c_elementData_915e3 yJx4a65c_elementData_915e3]
def wsX5_pledged_r2 : List Cond := [Cond.code yJx4a65c_elementData_915e3 cJx4a65c_elementData_915e3 2 (some (.object "java/lang/Object")), Cond.fieldLink RJx4a65c 9 "java/util/ArrayList" "elementData" "[Ljava/lang/Object;"]
def wsX5_pledged : List Cond := .code yX5_pledged cX5_pledged 3 (some .int) :: ((wsX5_pledged_r1 ++ wsX5_pledged_r2) ++ wsX50 ++ wsX40 ++ wsJx4a65c0)
def wsX5_pledgedBy_r1 : List Cond := [Cond.fieldLink RX5 26 "Tureenlist$Wish" "pledges" "Ljava/util/ArrayList;", Cond.classLink RX5 38 "Tureenlist$Pledge", Cond.fieldLink RX5 43 "Tureenlist$Pledge" "by" "LTureenlist$Guest;", Cond.fieldLink RX5 40 "Tureenlist$Pledge" "pence" "I", Cond.methodLink RX5 30 yJx4a65c_size_8abf5, Cond.instanceMethod yJx4a65c_size_8abf5, Cond.selects RJx4a65c yJx4a65c_size_8abf5 yJx4a65c_size_8abf5, Cond.initialized RJx4a65c, Cond.code yJx4a65c_size_8abf5 cJx4a65c_size_8abf5 1 (some .int), Cond.fieldLink RJx4a65c 48 "java/util/ArrayList" "size" "I", Cond.methodLink RX5 34 yJx4a65c_get_915e3, Cond.instanceMethod yJx4a65c_get_915e3, Cond.selects RJx4a65c yJx4a65c_get_915e3 yJx4a65c_get_915e3, Cond.code yJx4a65c_get_915e3 cJx4a65c_get_915e3 2 (some (.object "java/lang/Object")), Cond.methodLink RJx4a65c 118 yJ15_checkIndex_7cf53, Cond.static yJ15_checkIndex_7cf53, Cond.initialized RJ15, Cond.code yJ15_checkIndex_7cf53 cJ15_checkIndex_7cf53 2 (some .int), Cond.methodLink RJ15 105 yJ3_checkIndex_8e157, Cond.static yJ3_checkIndex_8e157, Cond.initialized RJ3, Cond.code yJ3_checkIndex_8e157 cJ3_checkIndex_8e157 3 (some .int), Cond.methodLink RJx4a65c 123 yJx4a65c_elementData_915e3, Cond.instanceMethod yJx4a65c_elementData_915e3]
def wsX5_pledgedBy_r2 : List Cond := [Cond.selects RJx4a65c yJx4a65c_elementData_915e3 yJx4a65c_elementData_915e3, Cond.code yJx4a65c_elementData_915e3 cJx4a65c_elementData_915e3 2 (some (.object "java/lang/Object")), Cond.fieldLink RJx4a65c 9 "java/util/ArrayList" "elementData" "[Ljava/lang/Object;"]
def wsX5_pledgedBy : List Cond := .code yX5_pledgedBy cX5_pledgedBy 5 (some .int) :: ((wsX5_pledgedBy_r1 ++ wsX5_pledgedBy_r2) ++ wsX50 ++ wsX40 ++ wsJx4a65c0)
def wsX5_lacking_r1 : List Cond := [Cond.fieldLink RX5 19 "Tureenlist$Wish" "forMany" "Z", Cond.fieldLink RX5 16 "Tureenlist$Wish" "cost" "I", Cond.methodLink RX5 50 Lib.Math.max.name, Cond.static Lib.Math.max.name, Cond.initialized "java/lang/Math", Cond.code Lib.Math.max.name Lib.Math.max.code 2 (some .int), Cond.methodLink RX5 47 yX5_pledged, Cond.instanceMethod yX5_pledged, Cond.selects RX5 yX5_pledged yX5_pledged, Cond.initialized RX5, Cond.code yX5_pledged cX5_pledged 3 (some .int), Cond.fieldLink RX5 26 "Tureenlist$Wish" "pledges" "Ljava/util/ArrayList;", Cond.classLink RX5 38 "Tureenlist$Pledge", Cond.fieldLink RX5 40 "Tureenlist$Pledge" "pence" "I", Cond.methodLink RX5 30 yJx4a65c_size_8abf5, Cond.instanceMethod yJx4a65c_size_8abf5, Cond.selects RJx4a65c yJx4a65c_size_8abf5 yJx4a65c_size_8abf5, Cond.initialized RJx4a65c, Cond.code yJx4a65c_size_8abf5 cJx4a65c_size_8abf5 1 (some .int), Cond.fieldLink RJx4a65c 48 "java/util/ArrayList" "size" "I", Cond.methodLink RX5 34 yJx4a65c_get_915e3, Cond.instanceMethod yJx4a65c_get_915e3, Cond.selects RJx4a65c yJx4a65c_get_915e3 yJx4a65c_get_915e3, Cond.code yJx4a65c_get_915e3 cJx4a65c_get_915e3 2 (some (.object "java/lang/Object"))]
def wsX5_lacking_r2 : List Cond := [Cond.methodLink RJx4a65c 118 yJ15_checkIndex_7cf53, Cond.static yJ15_checkIndex_7cf53, Cond.initialized RJ15, Cond.code yJ15_checkIndex_7cf53 cJ15_checkIndex_7cf53 2 (some .int), Cond.methodLink RJ15 105 yJ3_checkIndex_8e157, Cond.static yJ3_checkIndex_8e157, Cond.initialized RJ3, Cond.code yJ3_checkIndex_8e157 cJ3_checkIndex_8e157 3 (some .int), Cond.methodLink RJx4a65c 123 yJx4a65c_elementData_915e3, Cond.instanceMethod yJx4a65c_elementData_915e3, Cond.selects RJx4a65c yJx4a65c_elementData_915e3 yJx4a65c_elementData_915e3, Cond.code yJx4a65c_elementData_915e3 cJx4a65c_elementData_915e3 2 (some (.object "java/lang/Object")), Cond.fieldLink RJx4a65c 9 "java/util/ArrayList" "elementData" "[Ljava/lang/Object;"]
def wsX5_lacking : List Cond := .code yX5_lacking cX5_lacking 1 (some .int) :: ((wsX5_lacking_r1 ++ wsX5_lacking_r2) ++ wsX50 ++ wsX40 ++ wsJx4a65c0)
def wsX5_isOrdered_r1 : List Cond := [Cond.fieldLink RX5 19 "Tureenlist$Wish" "forMany" "Z", Cond.methodLink RX5 56 yX5_lacking, Cond.instanceMethod yX5_lacking, Cond.selects RX5 yX5_lacking yX5_lacking, Cond.initialized RX5, Cond.code yX5_lacking cX5_lacking 1 (some .int), Cond.fieldLink RX5 16 "Tureenlist$Wish" "cost" "I", Cond.methodLink RX5 50 Lib.Math.max.name, Cond.static Lib.Math.max.name, Cond.initialized "java/lang/Math", Cond.code Lib.Math.max.name Lib.Math.max.code 2 (some .int), Cond.methodLink RX5 47 yX5_pledged, Cond.instanceMethod yX5_pledged, Cond.selects RX5 yX5_pledged yX5_pledged, Cond.code yX5_pledged cX5_pledged 3 (some .int), Cond.fieldLink RX5 26 "Tureenlist$Wish" "pledges" "Ljava/util/ArrayList;", Cond.classLink RX5 38 "Tureenlist$Pledge", Cond.fieldLink RX5 40 "Tureenlist$Pledge" "pence" "I", Cond.methodLink RX5 30 yJx4a65c_size_8abf5, Cond.instanceMethod yJx4a65c_size_8abf5, Cond.selects RJx4a65c yJx4a65c_size_8abf5 yJx4a65c_size_8abf5, Cond.initialized RJx4a65c, Cond.code yJx4a65c_size_8abf5 cJx4a65c_size_8abf5 1 (some .int), Cond.fieldLink RJx4a65c 48 "java/util/ArrayList" "size" "I"]
def wsX5_isOrdered_r2 : List Cond := [Cond.methodLink RX5 34 yJx4a65c_get_915e3, Cond.instanceMethod yJx4a65c_get_915e3, Cond.selects RJx4a65c yJx4a65c_get_915e3 yJx4a65c_get_915e3, Cond.code yJx4a65c_get_915e3 cJx4a65c_get_915e3 2 (some (.object "java/lang/Object")), Cond.methodLink RJx4a65c 118 yJ15_checkIndex_7cf53, Cond.static yJ15_checkIndex_7cf53, Cond.initialized RJ15, Cond.code yJ15_checkIndex_7cf53 cJ15_checkIndex_7cf53 2 (some .int), Cond.methodLink RJ15 105 yJ3_checkIndex_8e157, Cond.static yJ3_checkIndex_8e157, Cond.initialized RJ3, Cond.code yJ3_checkIndex_8e157 cJ3_checkIndex_8e157 3 (some .int), Cond.methodLink RJx4a65c 123 yJx4a65c_elementData_915e3, Cond.instanceMethod yJx4a65c_elementData_915e3, Cond.selects RJx4a65c yJx4a65c_elementData_915e3 yJx4a65c_elementData_915e3, Cond.code yJx4a65c_elementData_915e3 cJx4a65c_elementData_915e3 2 (some (.object "java/lang/Object")), Cond.fieldLink RJx4a65c 9 "java/util/ArrayList" "elementData" "[Ljava/lang/Object;"]
def wsX5_isOrdered : List Cond := .code yX5_isOrdered cX5_isOrdered 1 (some .boolean) :: ((wsX5_isOrdered_r1 ++ wsX5_isOrdered_r2) ++ wsX50 ++ wsX40 ++ wsJx4a65c0)
def wsX6_init_r1 : List Cond := [Cond.methodLink RX6 3 objectInit, Cond.instanceMethod objectInit, Cond.code objectInit ⟨#[0xb1]⟩ 1 none, Cond.classLink RX6 9 RJx4a65c, Cond.instantiable RJx4a65c 3, Cond.initialized RJx4a65c, Cond.fieldLink RX6 12 "Tureenlist" "wishes" "Ljava/util/ArrayList;", Cond.fieldLink RX6 16 "Tureenlist" "guests" "Ljava/util/ArrayList;", Cond.fieldLink RX6 19 "Tureenlist" "gifts" "Ljava/util/ArrayList;", Cond.fieldLink RX6 22 "Tureenlist" "holds" "Ljava/util/ArrayList;", Cond.fieldLink RX6 25 "Tureenlist" "joined" "I", Cond.methodLink RX6 11 yJx4a65c_init_da8c8, Cond.instanceMethod yJx4a65c_init_da8c8, Cond.code yJx4a65c_init_da8c8 cJx4a65c_init_da8c8 1 none, Cond.fieldLink RJx4a65c 39 "java/util/ArrayList" "DEFAULTCAPACITY_EMPTY_ELEMENTDATA" "[Ljava/lang/Object;", Cond.fieldLink RJx4a65c 9 "java/util/ArrayList" "elementData" "[Ljava/lang/Object;", Cond.methodLink RJx4a65c 1 yJxc12de_init_da8c8, Cond.instanceMethod yJxc12de_init_da8c8, Cond.initialized RJxc12de, Cond.code yJxc12de_init_da8c8 cJxc12de_init_da8c8 1 none, Cond.fieldLink RJxc12de 7 "java/util/AbstractList" "modCount" "I", Cond.methodLink RJxc12de 1 yJxa1e45_init_da8c8, Cond.instanceMethod yJxa1e45_init_da8c8, Cond.initialized RJxa1e45]
def wsX6_init_r2 : List Cond := [Cond.code yJxa1e45_init_da8c8 cJxa1e45_init_da8c8 1 none, Cond.methodLink RJxa1e45 1 objectInit]
def wsX6_init : List Cond := .code yX6_init cX6_init 1 none :: ((wsX6_init_r1 ++ wsX6_init_r2) ++ wsJx4a65c0 ++ wsX60)
def wsX6_refuseIfCalledOff : List Cond := .code yX6_refuseIfCalledOff cX6_refuseIfCalledOff 1 none :: ([.classLink RX6 51 "java/lang/IllegalStateException", .initialized "java/lang/IllegalStateException", .fieldLink RX6 229 "Tureenlist" "calledOff" "Z"] ++ wsX60 ++ (vx_atS RX6 55 "java/lang/IllegalStateException" ["java/lang/RuntimeException", "java/lang/Exception"]).filter goodWord)
def wsJ8_hugeLength_7cf53 : List Cond := .code yJ8_hugeLength_7cf53 cJ8_hugeLength_7cf53 3 (some .int) :: ([.constant RJ8 200 (2147483639)])
def wsJ8_newLength_cabcc : List Cond := .code yJ8_newLength_cabcc cJ8_newLength_cabcc 4 (some .int) :: ([.methodLink RJ8 194 Lib.Math.max.name, .static Lib.Math.max.name, .initialized "java/lang/Math", .code Lib.Math.max.name Lib.Math.max.code 2 (some .int), .constant RJ8 200 (2147483639), .methodLink RJ8 201 yJ8_hugeLength_7cf53, .static yJ8_hugeLength_7cf53, .initialized RJ8, .code yJ8_hugeLength_7cf53 cJ8_hugeLength_7cf53 3 (some .int)])
def wsJ7_copyOf_6403c : List Cond := .code yJ7_copyOf_6403c cJ7_copyOf_6403c 4 (some (.array (.object "java/lang/Object"))) :: ([.classLink RJ7 110 "[Ljava/lang/Object;", .classLink RJ7 2 "java/lang/Object", .methodLink RJ7 304 Lib.Math.min.name, .static Lib.Math.min.name, .initialized "java/lang/Math", .code Lib.Math.min.name Lib.Math.min.code 2 (some .int), .methodLink RJ7 150 arraycopyName, .native arraycopyName, .static arraycopyName, .initialized "java/lang/System"])
def wsJ7_copyOf_1904c : List Cond := .code yJ7_copyOf_1904c cJ7_copyOf_1904c 2 (some (.array (.object "java/lang/Object"))) :: ([.methodLink RJ7 86 ⟨"java/lang/Object", "getClass", "()Ljava/lang/Class;"⟩, .selects "[Ljava/lang/Object;" ⟨"java/lang/Object", "getClass", "()Ljava/lang/Class;"⟩ ⟨"java/lang/Object", "getClass", "()Ljava/lang/Class;"⟩, .instanceMethod ⟨"java/lang/Object", "getClass", "()Ljava/lang/Class;"⟩, .native ⟨"java/lang/Object", "getClass", "()Ljava/lang/Class;"⟩, .methodLink RJ7 300 yJ7_copyOf_6403c, .static yJ7_copyOf_6403c, .initialized RJ7, .code yJ7_copyOf_6403c cJ7_copyOf_6403c 4 (some (.array (.object "java/lang/Object"))), .classLink RJ7 110 "[Ljava/lang/Object;", .classLink RJ7 2 "java/lang/Object", .methodLink RJ7 304 Lib.Math.min.name, .static Lib.Math.min.name, .initialized "java/lang/Math", .code Lib.Math.min.name Lib.Math.min.code 2 (some .int), .methodLink RJ7 150 arraycopyName, .native arraycopyName, .static arraycopyName, .initialized "java/lang/System"])
def wsJx4a65c_grow_92f84_r1 : List Cond := [Cond.fieldLink RJx4a65c 9 "java/util/ArrayList" "elementData" "[Ljava/lang/Object;", Cond.fieldLink RJx4a65c 39 "java/util/ArrayList" "DEFAULTCAPACITY_EMPTY_ELEMENTDATA" "[Ljava/lang/Object;", Cond.methodLink RJx4a65c 79 Lib.Math.max.name, Cond.static Lib.Math.max.name, Cond.initialized "java/lang/Math", Cond.code Lib.Math.max.name Lib.Math.max.code 2 (some .int), Cond.classLink RJx4a65c 7 "java/lang/Object", Cond.methodLink RJx4a65c 73 yJ8_newLength_cabcc, Cond.static yJ8_newLength_cabcc, Cond.initialized RJ8, Cond.code yJ8_newLength_cabcc cJ8_newLength_cabcc 4 (some .int), Cond.methodLink RJ8 194 Lib.Math.max.name, Cond.constant RJ8 200 (2147483639), Cond.methodLink RJ8 201 yJ8_hugeLength_7cf53, Cond.static yJ8_hugeLength_7cf53, Cond.code yJ8_hugeLength_7cf53 cJ8_hugeLength_7cf53 3 (some .int), Cond.methodLink RJx4a65c 66 yJ7_copyOf_1904c, Cond.static yJ7_copyOf_1904c, Cond.initialized RJ7, Cond.code yJ7_copyOf_1904c cJ7_copyOf_1904c 2 (some (.array (.object "java/lang/Object"))), Cond.methodLink RJ7 86 ⟨"java/lang/Object", "getClass", "()Ljava/lang/Class;"⟩, Cond.selects "[Ljava/lang/Object;" ⟨"java/lang/Object", "getClass", "()Ljava/lang/Class;"⟩ ⟨"java/lang/Object", "getClass", "()Ljava/lang/Class;"⟩, Cond.instanceMethod ⟨"java/lang/Object", "getClass", "()Ljava/lang/Class;"⟩, Cond.native ⟨"java/lang/Object", "getClass", "()Ljava/lang/Class;"⟩]
def wsJx4a65c_grow_92f84_r2 : List Cond := [Cond.methodLink RJ7 300 yJ7_copyOf_6403c, Cond.static yJ7_copyOf_6403c, Cond.code yJ7_copyOf_6403c cJ7_copyOf_6403c 4 (some (.array (.object "java/lang/Object"))), Cond.classLink RJ7 110 "[Ljava/lang/Object;", Cond.classLink RJ7 2 "java/lang/Object", Cond.methodLink RJ7 304 Lib.Math.min.name, Cond.static Lib.Math.min.name, Cond.code Lib.Math.min.name Lib.Math.min.code 2 (some .int), Cond.methodLink RJ7 150 arraycopyName, Cond.native arraycopyName, Cond.static arraycopyName, Cond.initialized "java/lang/System"]
def wsJx4a65c_grow_92f84 : List Cond := .code yJx4a65c_grow_92f84 cJx4a65c_grow_92f84 4 (some (.array (.object "java/lang/Object"))) :: ((wsJx4a65c_grow_92f84_r1 ++ wsJx4a65c_grow_92f84_r2) ++ wsJx4a65c0)
def wsJx4a65c_grow_d5877_r1 : List Cond := [Cond.fieldLink RJx4a65c 48 "java/util/ArrayList" "size" "I", Cond.methodLink RJx4a65c 69 yJx4a65c_grow_92f84, Cond.instanceMethod yJx4a65c_grow_92f84, Cond.selects RJx4a65c yJx4a65c_grow_92f84 yJx4a65c_grow_92f84, Cond.initialized RJx4a65c, Cond.code yJx4a65c_grow_92f84 cJx4a65c_grow_92f84 4 (some (.array (.object "java/lang/Object"))), Cond.fieldLink RJx4a65c 9 "java/util/ArrayList" "elementData" "[Ljava/lang/Object;", Cond.fieldLink RJx4a65c 39 "java/util/ArrayList" "DEFAULTCAPACITY_EMPTY_ELEMENTDATA" "[Ljava/lang/Object;", Cond.methodLink RJx4a65c 79 Lib.Math.max.name, Cond.static Lib.Math.max.name, Cond.initialized "java/lang/Math", Cond.code Lib.Math.max.name Lib.Math.max.code 2 (some .int), Cond.classLink RJx4a65c 7 "java/lang/Object", Cond.methodLink RJx4a65c 73 yJ8_newLength_cabcc, Cond.static yJ8_newLength_cabcc, Cond.initialized RJ8, Cond.code yJ8_newLength_cabcc cJ8_newLength_cabcc 4 (some .int), Cond.methodLink RJ8 194 Lib.Math.max.name, Cond.constant RJ8 200 (2147483639), Cond.methodLink RJ8 201 yJ8_hugeLength_7cf53, Cond.static yJ8_hugeLength_7cf53, Cond.code yJ8_hugeLength_7cf53 cJ8_hugeLength_7cf53 3 (some .int), Cond.methodLink RJx4a65c 66 yJ7_copyOf_1904c, Cond.static yJ7_copyOf_1904c]
def wsJx4a65c_grow_d5877_r2 : List Cond := [Cond.initialized RJ7, Cond.code yJ7_copyOf_1904c cJ7_copyOf_1904c 2 (some (.array (.object "java/lang/Object"))), Cond.methodLink RJ7 86 ⟨"java/lang/Object", "getClass", "()Ljava/lang/Class;"⟩, Cond.selects "[Ljava/lang/Object;" ⟨"java/lang/Object", "getClass", "()Ljava/lang/Class;"⟩ ⟨"java/lang/Object", "getClass", "()Ljava/lang/Class;"⟩, Cond.instanceMethod ⟨"java/lang/Object", "getClass", "()Ljava/lang/Class;"⟩, Cond.native ⟨"java/lang/Object", "getClass", "()Ljava/lang/Class;"⟩, Cond.methodLink RJ7 300 yJ7_copyOf_6403c, Cond.static yJ7_copyOf_6403c, Cond.code yJ7_copyOf_6403c cJ7_copyOf_6403c 4 (some (.array (.object "java/lang/Object"))), Cond.classLink RJ7 110 "[Ljava/lang/Object;", Cond.classLink RJ7 2 "java/lang/Object", Cond.methodLink RJ7 304 Lib.Math.min.name, Cond.static Lib.Math.min.name, Cond.code Lib.Math.min.name Lib.Math.min.code 2 (some .int), Cond.methodLink RJ7 150 arraycopyName, Cond.native arraycopyName, Cond.static arraycopyName, Cond.initialized "java/lang/System"]
def wsJx4a65c_grow_d5877 : List Cond := .code yJx4a65c_grow_d5877 cJx4a65c_grow_d5877 1 (some (.array (.object "java/lang/Object"))) :: ((wsJx4a65c_grow_d5877_r1 ++ wsJx4a65c_grow_d5877_r2) ++ wsJx4a65c0)
def wsJx4a65c_add_72be8_r1 : List Cond := [Cond.fieldLink RJx4a65c 48 "java/util/ArrayList" "size" "I", Cond.methodLink RJx4a65c 129 yJx4a65c_grow_d5877, Cond.instanceMethod yJx4a65c_grow_d5877, Cond.selects RJx4a65c yJx4a65c_grow_d5877 yJx4a65c_grow_d5877, Cond.initialized RJx4a65c, Cond.code yJx4a65c_grow_d5877 cJx4a65c_grow_d5877 1 (some (.array (.object "java/lang/Object"))), Cond.methodLink RJx4a65c 69 yJx4a65c_grow_92f84, Cond.instanceMethod yJx4a65c_grow_92f84, Cond.selects RJx4a65c yJx4a65c_grow_92f84 yJx4a65c_grow_92f84, Cond.code yJx4a65c_grow_92f84 cJx4a65c_grow_92f84 4 (some (.array (.object "java/lang/Object"))), Cond.fieldLink RJx4a65c 9 "java/util/ArrayList" "elementData" "[Ljava/lang/Object;", Cond.fieldLink RJx4a65c 39 "java/util/ArrayList" "DEFAULTCAPACITY_EMPTY_ELEMENTDATA" "[Ljava/lang/Object;", Cond.methodLink RJx4a65c 79 Lib.Math.max.name, Cond.static Lib.Math.max.name, Cond.initialized "java/lang/Math", Cond.code Lib.Math.max.name Lib.Math.max.code 2 (some .int), Cond.classLink RJx4a65c 7 "java/lang/Object", Cond.methodLink RJx4a65c 73 yJ8_newLength_cabcc, Cond.static yJ8_newLength_cabcc, Cond.initialized RJ8, Cond.code yJ8_newLength_cabcc cJ8_newLength_cabcc 4 (some .int), Cond.methodLink RJ8 194 Lib.Math.max.name, Cond.constant RJ8 200 (2147483639), Cond.methodLink RJ8 201 yJ8_hugeLength_7cf53]
def wsJx4a65c_add_72be8_r2 : List Cond := [Cond.static yJ8_hugeLength_7cf53, Cond.code yJ8_hugeLength_7cf53 cJ8_hugeLength_7cf53 3 (some .int), Cond.methodLink RJx4a65c 66 yJ7_copyOf_1904c, Cond.static yJ7_copyOf_1904c, Cond.initialized RJ7, Cond.code yJ7_copyOf_1904c cJ7_copyOf_1904c 2 (some (.array (.object "java/lang/Object"))), Cond.methodLink RJ7 86 ⟨"java/lang/Object", "getClass", "()Ljava/lang/Class;"⟩, Cond.selects "[Ljava/lang/Object;" ⟨"java/lang/Object", "getClass", "()Ljava/lang/Class;"⟩ ⟨"java/lang/Object", "getClass", "()Ljava/lang/Class;"⟩, Cond.instanceMethod ⟨"java/lang/Object", "getClass", "()Ljava/lang/Class;"⟩, Cond.native ⟨"java/lang/Object", "getClass", "()Ljava/lang/Class;"⟩, Cond.methodLink RJ7 300 yJ7_copyOf_6403c, Cond.static yJ7_copyOf_6403c, Cond.code yJ7_copyOf_6403c cJ7_copyOf_6403c 4 (some (.array (.object "java/lang/Object"))), Cond.classLink RJ7 110 "[Ljava/lang/Object;", Cond.classLink RJ7 2 "java/lang/Object", Cond.methodLink RJ7 304 Lib.Math.min.name, Cond.static Lib.Math.min.name, Cond.code Lib.Math.min.name Lib.Math.min.code 2 (some .int), Cond.methodLink RJ7 150 arraycopyName, Cond.native arraycopyName, Cond.static arraycopyName, Cond.initialized "java/lang/System"]
def wsJx4a65c_add_72be8 : List Cond := .code yJx4a65c_add_72be8 cJx4a65c_add_72be8 4 none :: ((wsJx4a65c_add_72be8_r1 ++ wsJx4a65c_add_72be8_r2) ++ wsJx4a65c0)
def wsJx4a65c_add_9ea2d_r1 : List Cond := [Cond.fieldLink RJx4a65c 63 "java/util/ArrayList" "modCount" "I", Cond.sameField "java/util/ArrayList" "java/util/AbstractList" "modCount" "I", Cond.fieldLink RJx4a65c 9 "java/util/ArrayList" "elementData" "[Ljava/lang/Object;", Cond.fieldLink RJx4a65c 48 "java/util/ArrayList" "size" "I", Cond.methodLink RJx4a65c 131 yJx4a65c_add_72be8, Cond.instanceMethod yJx4a65c_add_72be8, Cond.selects RJx4a65c yJx4a65c_add_72be8 yJx4a65c_add_72be8, Cond.initialized RJx4a65c, Cond.code yJx4a65c_add_72be8 cJx4a65c_add_72be8 4 none, Cond.methodLink RJx4a65c 129 yJx4a65c_grow_d5877, Cond.instanceMethod yJx4a65c_grow_d5877, Cond.selects RJx4a65c yJx4a65c_grow_d5877 yJx4a65c_grow_d5877, Cond.code yJx4a65c_grow_d5877 cJx4a65c_grow_d5877 1 (some (.array (.object "java/lang/Object"))), Cond.methodLink RJx4a65c 69 yJx4a65c_grow_92f84, Cond.instanceMethod yJx4a65c_grow_92f84, Cond.selects RJx4a65c yJx4a65c_grow_92f84 yJx4a65c_grow_92f84, Cond.code yJx4a65c_grow_92f84 cJx4a65c_grow_92f84 4 (some (.array (.object "java/lang/Object"))), Cond.fieldLink RJx4a65c 39 "java/util/ArrayList" "DEFAULTCAPACITY_EMPTY_ELEMENTDATA" "[Ljava/lang/Object;", Cond.methodLink RJx4a65c 79 Lib.Math.max.name, Cond.static Lib.Math.max.name, Cond.initialized "java/lang/Math", Cond.code Lib.Math.max.name Lib.Math.max.code 2 (some .int), Cond.classLink RJx4a65c 7 "java/lang/Object", Cond.methodLink RJx4a65c 73 yJ8_newLength_cabcc]
def wsJx4a65c_add_9ea2d_r2 : List Cond := [Cond.static yJ8_newLength_cabcc, Cond.initialized RJ8, Cond.code yJ8_newLength_cabcc cJ8_newLength_cabcc 4 (some .int), Cond.methodLink RJ8 194 Lib.Math.max.name, Cond.constant RJ8 200 (2147483639), Cond.methodLink RJ8 201 yJ8_hugeLength_7cf53, Cond.static yJ8_hugeLength_7cf53, Cond.code yJ8_hugeLength_7cf53 cJ8_hugeLength_7cf53 3 (some .int), Cond.methodLink RJx4a65c 66 yJ7_copyOf_1904c, Cond.static yJ7_copyOf_1904c, Cond.initialized RJ7, Cond.code yJ7_copyOf_1904c cJ7_copyOf_1904c 2 (some (.array (.object "java/lang/Object"))), Cond.methodLink RJ7 86 ⟨"java/lang/Object", "getClass", "()Ljava/lang/Class;"⟩, Cond.selects "[Ljava/lang/Object;" ⟨"java/lang/Object", "getClass", "()Ljava/lang/Class;"⟩ ⟨"java/lang/Object", "getClass", "()Ljava/lang/Class;"⟩, Cond.instanceMethod ⟨"java/lang/Object", "getClass", "()Ljava/lang/Class;"⟩, Cond.native ⟨"java/lang/Object", "getClass", "()Ljava/lang/Class;"⟩, Cond.methodLink RJ7 300 yJ7_copyOf_6403c, Cond.static yJ7_copyOf_6403c, Cond.code yJ7_copyOf_6403c cJ7_copyOf_6403c 4 (some (.array (.object "java/lang/Object"))), Cond.classLink RJ7 110 "[Ljava/lang/Object;", Cond.classLink RJ7 2 "java/lang/Object", Cond.methodLink RJ7 304 Lib.Math.min.name, Cond.static Lib.Math.min.name, Cond.code Lib.Math.min.name Lib.Math.min.code 2 (some .int)]
def wsJx4a65c_add_9ea2d_r3 : List Cond := [Cond.methodLink RJ7 150 arraycopyName, Cond.native arraycopyName, Cond.static arraycopyName, Cond.initialized "java/lang/System"]
def wsJx4a65c_add_9ea2d : List Cond := .code yJx4a65c_add_9ea2d cJx4a65c_add_9ea2d 2 (some .boolean) :: ((wsJx4a65c_add_9ea2d_r1 ++ (wsJx4a65c_add_9ea2d_r2 ++ wsJx4a65c_add_9ea2d_r3)) ++ wsJx4a65c0)
def wsX6_addWish_r1 : List Cond := [Cond.classLink RX6 51 "java/lang/IllegalStateException", Cond.initialized "java/lang/IllegalStateException", Cond.fieldLink RX6 12 "Tureenlist" "wishes" "Ljava/util/ArrayList;", Cond.classLink RX6 56 RX5, Cond.instantiable RX5 7, Cond.initialized RX5, Cond.methodLink RX6 44 yX6_refuseIfCalledOff, Cond.instanceMethod yX6_refuseIfCalledOff, Cond.selects RX6 yX6_refuseIfCalledOff yX6_refuseIfCalledOff, Cond.initialized RX6, Cond.code yX6_refuseIfCalledOff cX6_refuseIfCalledOff 1 none, Cond.fieldLink RX6 229 "Tureenlist" "calledOff" "Z", Cond.methodLink RX6 47 yJx4a65c_size_8abf5, Cond.instanceMethod yJx4a65c_size_8abf5, Cond.selects RJx4a65c yJx4a65c_size_8abf5 yJx4a65c_size_8abf5, Cond.initialized RJx4a65c, Cond.code yJx4a65c_size_8abf5 cJx4a65c_size_8abf5 1 (some .int), Cond.fieldLink RJx4a65c 48 "java/util/ArrayList" "size" "I", Cond.methodLink RX6 58 yX5_init, Cond.instanceMethod yX5_init, Cond.code yX5_init cX5_init 5 none, Cond.methodLink RX5 1 objectInit, Cond.instanceMethod objectInit, Cond.code objectInit ⟨#[0xb1]⟩ 1 none]
def wsX6_addWish_r2 : List Cond := [Cond.fieldLink RX5 7 "Tureenlist$Wish" "number" "I", Cond.fieldLink RX5 13 "Tureenlist$Wish" "count" "I", Cond.fieldLink RX5 16 "Tureenlist$Wish" "cost" "I", Cond.fieldLink RX5 19 "Tureenlist$Wish" "forMany" "Z", Cond.classLink RX5 23 RJx4a65c, Cond.instantiable RJx4a65c 3, Cond.fieldLink RX5 26 "Tureenlist$Wish" "pledges" "Ljava/util/ArrayList;", Cond.methodLink RX5 25 yJx4a65c_init_da8c8, Cond.instanceMethod yJx4a65c_init_da8c8, Cond.code yJx4a65c_init_da8c8 cJx4a65c_init_da8c8 1 none, Cond.fieldLink RJx4a65c 39 "java/util/ArrayList" "DEFAULTCAPACITY_EMPTY_ELEMENTDATA" "[Ljava/lang/Object;", Cond.fieldLink RJx4a65c 9 "java/util/ArrayList" "elementData" "[Ljava/lang/Object;", Cond.methodLink RJx4a65c 1 yJxc12de_init_da8c8, Cond.instanceMethod yJxc12de_init_da8c8, Cond.initialized RJxc12de, Cond.code yJxc12de_init_da8c8 cJxc12de_init_da8c8 1 none, Cond.fieldLink RJxc12de 7 "java/util/AbstractList" "modCount" "I", Cond.methodLink RJxc12de 1 yJxa1e45_init_da8c8, Cond.instanceMethod yJxa1e45_init_da8c8, Cond.initialized RJxa1e45, Cond.code yJxa1e45_init_da8c8 cJxa1e45_init_da8c8 1 none, Cond.methodLink RJxa1e45 1 objectInit, Cond.methodLink RX6 61 yJx4a65c_add_9ea2d, Cond.instanceMethod yJx4a65c_add_9ea2d]
def wsX6_addWish_r3 : List Cond := [Cond.selects RJx4a65c yJx4a65c_add_9ea2d yJx4a65c_add_9ea2d, Cond.code yJx4a65c_add_9ea2d cJx4a65c_add_9ea2d 2 (some .boolean), Cond.fieldLink RJx4a65c 63 "java/util/ArrayList" "modCount" "I", Cond.sameField "java/util/ArrayList" "java/util/AbstractList" "modCount" "I", Cond.methodLink RJx4a65c 131 yJx4a65c_add_72be8, Cond.instanceMethod yJx4a65c_add_72be8, Cond.selects RJx4a65c yJx4a65c_add_72be8 yJx4a65c_add_72be8, Cond.code yJx4a65c_add_72be8 cJx4a65c_add_72be8 4 none, Cond.methodLink RJx4a65c 129 yJx4a65c_grow_d5877, Cond.instanceMethod yJx4a65c_grow_d5877, Cond.selects RJx4a65c yJx4a65c_grow_d5877 yJx4a65c_grow_d5877, Cond.code yJx4a65c_grow_d5877 cJx4a65c_grow_d5877 1 (some (.array (.object "java/lang/Object"))), Cond.methodLink RJx4a65c 69 yJx4a65c_grow_92f84, Cond.instanceMethod yJx4a65c_grow_92f84, Cond.selects RJx4a65c yJx4a65c_grow_92f84 yJx4a65c_grow_92f84, Cond.code yJx4a65c_grow_92f84 cJx4a65c_grow_92f84 4 (some (.array (.object "java/lang/Object"))), Cond.methodLink RJx4a65c 79 Lib.Math.max.name, Cond.static Lib.Math.max.name, Cond.initialized "java/lang/Math", Cond.code Lib.Math.max.name Lib.Math.max.code 2 (some .int), Cond.classLink RJx4a65c 7 "java/lang/Object", Cond.methodLink RJx4a65c 73 yJ8_newLength_cabcc, Cond.static yJ8_newLength_cabcc, Cond.initialized RJ8]
def wsX6_addWish_r4 : List Cond := [Cond.code yJ8_newLength_cabcc cJ8_newLength_cabcc 4 (some .int), Cond.methodLink RJ8 194 Lib.Math.max.name, Cond.constant RJ8 200 (2147483639), Cond.methodLink RJ8 201 yJ8_hugeLength_7cf53, Cond.static yJ8_hugeLength_7cf53, Cond.code yJ8_hugeLength_7cf53 cJ8_hugeLength_7cf53 3 (some .int), Cond.methodLink RJx4a65c 66 yJ7_copyOf_1904c, Cond.static yJ7_copyOf_1904c, Cond.initialized RJ7, Cond.code yJ7_copyOf_1904c cJ7_copyOf_1904c 2 (some (.array (.object "java/lang/Object"))), Cond.methodLink RJ7 86 ⟨"java/lang/Object", "getClass", "()Ljava/lang/Class;"⟩, Cond.selects "[Ljava/lang/Object;" ⟨"java/lang/Object", "getClass", "()Ljava/lang/Class;"⟩ ⟨"java/lang/Object", "getClass", "()Ljava/lang/Class;"⟩, Cond.instanceMethod ⟨"java/lang/Object", "getClass", "()Ljava/lang/Class;"⟩, Cond.native ⟨"java/lang/Object", "getClass", "()Ljava/lang/Class;"⟩, Cond.methodLink RJ7 300 yJ7_copyOf_6403c, Cond.static yJ7_copyOf_6403c, Cond.code yJ7_copyOf_6403c cJ7_copyOf_6403c 4 (some (.array (.object "java/lang/Object"))), Cond.classLink RJ7 110 "[Ljava/lang/Object;", Cond.classLink RJ7 2 "java/lang/Object", Cond.methodLink RJ7 304 Lib.Math.min.name, Cond.static Lib.Math.min.name, Cond.code Lib.Math.min.name Lib.Math.min.code 2 (some .int), Cond.methodLink RJ7 150 arraycopyName, Cond.native arraycopyName]
def wsX6_addWish_r5 : List Cond := [Cond.static arraycopyName, Cond.initialized "java/lang/System"]
def wsX6_addWish : List Cond := .code yX6_addWish cX6_addWish 5 (some .int) :: ((wsX6_addWish_r1 ++ (wsX6_addWish_r2 ++ (wsX6_addWish_r3 ++ (wsX6_addWish_r4 ++ wsX6_addWish_r5)))) ++ wsX60 ++ wsX50 ++ wsJx4a65c0 ++ (vx_atS RX6 55 "java/lang/IllegalStateException" ["java/lang/RuntimeException", "java/lang/Exception"]).filter goodWord)
def wsX6_wish_r1 : List Cond := [Cond.classLink RX6 29 "java/lang/IllegalArgumentException", Cond.initialized "java/lang/IllegalArgumentException", Cond.methodLink RX6 38 yX6_addWish, Cond.instanceMethod yX6_addWish, Cond.selects RX6 yX6_addWish yX6_addWish, Cond.initialized RX6, Cond.code yX6_addWish cX6_addWish 5 (some .int), Cond.classLink RX6 51 "java/lang/IllegalStateException", Cond.initialized "java/lang/IllegalStateException", Cond.fieldLink RX6 12 "Tureenlist" "wishes" "Ljava/util/ArrayList;", Cond.classLink RX6 56 RX5, Cond.instantiable RX5 7, Cond.initialized RX5, Cond.methodLink RX6 44 yX6_refuseIfCalledOff, Cond.instanceMethod yX6_refuseIfCalledOff, Cond.selects RX6 yX6_refuseIfCalledOff yX6_refuseIfCalledOff, Cond.code yX6_refuseIfCalledOff cX6_refuseIfCalledOff 1 none, Cond.fieldLink RX6 229 "Tureenlist" "calledOff" "Z", Cond.methodLink RX6 47 yJx4a65c_size_8abf5, Cond.instanceMethod yJx4a65c_size_8abf5, Cond.selects RJx4a65c yJx4a65c_size_8abf5 yJx4a65c_size_8abf5, Cond.initialized RJx4a65c, Cond.code yJx4a65c_size_8abf5 cJx4a65c_size_8abf5 1 (some .int), Cond.fieldLink RJx4a65c 48 "java/util/ArrayList" "size" "I"]
def wsX6_wish_r2 : List Cond := [Cond.methodLink RX6 58 yX5_init, Cond.instanceMethod yX5_init, Cond.code yX5_init cX5_init 5 none, Cond.methodLink RX5 1 objectInit, Cond.instanceMethod objectInit, Cond.code objectInit ⟨#[0xb1]⟩ 1 none, Cond.fieldLink RX5 7 "Tureenlist$Wish" "number" "I", Cond.fieldLink RX5 13 "Tureenlist$Wish" "count" "I", Cond.fieldLink RX5 16 "Tureenlist$Wish" "cost" "I", Cond.fieldLink RX5 19 "Tureenlist$Wish" "forMany" "Z", Cond.classLink RX5 23 RJx4a65c, Cond.instantiable RJx4a65c 3, Cond.fieldLink RX5 26 "Tureenlist$Wish" "pledges" "Ljava/util/ArrayList;", Cond.methodLink RX5 25 yJx4a65c_init_da8c8, Cond.instanceMethod yJx4a65c_init_da8c8, Cond.code yJx4a65c_init_da8c8 cJx4a65c_init_da8c8 1 none, Cond.fieldLink RJx4a65c 39 "java/util/ArrayList" "DEFAULTCAPACITY_EMPTY_ELEMENTDATA" "[Ljava/lang/Object;", Cond.fieldLink RJx4a65c 9 "java/util/ArrayList" "elementData" "[Ljava/lang/Object;", Cond.methodLink RJx4a65c 1 yJxc12de_init_da8c8, Cond.instanceMethod yJxc12de_init_da8c8, Cond.initialized RJxc12de, Cond.code yJxc12de_init_da8c8 cJxc12de_init_da8c8 1 none, Cond.fieldLink RJxc12de 7 "java/util/AbstractList" "modCount" "I", Cond.methodLink RJxc12de 1 yJxa1e45_init_da8c8]
def wsX6_wish_r3 : List Cond := [Cond.instanceMethod yJxa1e45_init_da8c8, Cond.initialized RJxa1e45, Cond.code yJxa1e45_init_da8c8 cJxa1e45_init_da8c8 1 none, Cond.methodLink RJxa1e45 1 objectInit, Cond.methodLink RX6 61 yJx4a65c_add_9ea2d, Cond.instanceMethod yJx4a65c_add_9ea2d, Cond.selects RJx4a65c yJx4a65c_add_9ea2d yJx4a65c_add_9ea2d, Cond.code yJx4a65c_add_9ea2d cJx4a65c_add_9ea2d 2 (some .boolean), Cond.fieldLink RJx4a65c 63 "java/util/ArrayList" "modCount" "I", Cond.sameField "java/util/ArrayList" "java/util/AbstractList" "modCount" "I", Cond.methodLink RJx4a65c 131 yJx4a65c_add_72be8, Cond.instanceMethod yJx4a65c_add_72be8, Cond.selects RJx4a65c yJx4a65c_add_72be8 yJx4a65c_add_72be8, Cond.code yJx4a65c_add_72be8 cJx4a65c_add_72be8 4 none, Cond.methodLink RJx4a65c 129 yJx4a65c_grow_d5877, Cond.instanceMethod yJx4a65c_grow_d5877, Cond.selects RJx4a65c yJx4a65c_grow_d5877 yJx4a65c_grow_d5877, Cond.code yJx4a65c_grow_d5877 cJx4a65c_grow_d5877 1 (some (.array (.object "java/lang/Object"))), Cond.methodLink RJx4a65c 69 yJx4a65c_grow_92f84, Cond.instanceMethod yJx4a65c_grow_92f84, Cond.selects RJx4a65c yJx4a65c_grow_92f84 yJx4a65c_grow_92f84, Cond.code yJx4a65c_grow_92f84 cJx4a65c_grow_92f84 4 (some (.array (.object "java/lang/Object"))), Cond.methodLink RJx4a65c 79 Lib.Math.max.name, Cond.static Lib.Math.max.name]
def wsX6_wish_r4 : List Cond := [Cond.initialized "java/lang/Math", Cond.code Lib.Math.max.name Lib.Math.max.code 2 (some .int), Cond.classLink RJx4a65c 7 "java/lang/Object", Cond.methodLink RJx4a65c 73 yJ8_newLength_cabcc, Cond.static yJ8_newLength_cabcc, Cond.initialized RJ8, Cond.code yJ8_newLength_cabcc cJ8_newLength_cabcc 4 (some .int), Cond.methodLink RJ8 194 Lib.Math.max.name, Cond.constant RJ8 200 (2147483639), Cond.methodLink RJ8 201 yJ8_hugeLength_7cf53, Cond.static yJ8_hugeLength_7cf53, Cond.code yJ8_hugeLength_7cf53 cJ8_hugeLength_7cf53 3 (some .int), Cond.methodLink RJx4a65c 66 yJ7_copyOf_1904c, Cond.static yJ7_copyOf_1904c, Cond.initialized RJ7, Cond.code yJ7_copyOf_1904c cJ7_copyOf_1904c 2 (some (.array (.object "java/lang/Object"))), Cond.methodLink RJ7 86 ⟨"java/lang/Object", "getClass", "()Ljava/lang/Class;"⟩, Cond.selects "[Ljava/lang/Object;" ⟨"java/lang/Object", "getClass", "()Ljava/lang/Class;"⟩ ⟨"java/lang/Object", "getClass", "()Ljava/lang/Class;"⟩, Cond.instanceMethod ⟨"java/lang/Object", "getClass", "()Ljava/lang/Class;"⟩, Cond.native ⟨"java/lang/Object", "getClass", "()Ljava/lang/Class;"⟩, Cond.methodLink RJ7 300 yJ7_copyOf_6403c, Cond.static yJ7_copyOf_6403c, Cond.code yJ7_copyOf_6403c cJ7_copyOf_6403c 4 (some (.array (.object "java/lang/Object"))), Cond.classLink RJ7 110 "[Ljava/lang/Object;"]
def wsX6_wish_r5 : List Cond := [Cond.classLink RJ7 2 "java/lang/Object", Cond.methodLink RJ7 304 Lib.Math.min.name, Cond.static Lib.Math.min.name, Cond.code Lib.Math.min.name Lib.Math.min.code 2 (some .int), Cond.methodLink RJ7 150 arraycopyName, Cond.native arraycopyName, Cond.static arraycopyName, Cond.initialized "java/lang/System"]
def wsX6_wish : List Cond := .code yX6_wish cX6_wish 3 (some .int) :: ((wsX6_wish_r1 ++ (wsX6_wish_r2 ++ (wsX6_wish_r3 ++ (wsX6_wish_r4 ++ wsX6_wish_r5)))) ++ wsX60 ++ wsX50 ++ wsJx4a65c0 ++ (vx_atS RX6 33 "java/lang/IllegalArgumentException" ["java/lang/RuntimeException", "java/lang/Exception"]).filter goodWord ++ (vx_atS RX6 55 "java/lang/IllegalStateException" ["java/lang/RuntimeException", "java/lang/Exception"]).filter goodWord)
def wsX6_shared_r1 : List Cond := [Cond.classLink RX6 29 "java/lang/IllegalArgumentException", Cond.initialized "java/lang/IllegalArgumentException", Cond.methodLink RX6 38 yX6_addWish, Cond.instanceMethod yX6_addWish, Cond.selects RX6 yX6_addWish yX6_addWish, Cond.initialized RX6, Cond.code yX6_addWish cX6_addWish 5 (some .int), Cond.classLink RX6 51 "java/lang/IllegalStateException", Cond.initialized "java/lang/IllegalStateException", Cond.fieldLink RX6 12 "Tureenlist" "wishes" "Ljava/util/ArrayList;", Cond.classLink RX6 56 RX5, Cond.instantiable RX5 7, Cond.initialized RX5, Cond.methodLink RX6 44 yX6_refuseIfCalledOff, Cond.instanceMethod yX6_refuseIfCalledOff, Cond.selects RX6 yX6_refuseIfCalledOff yX6_refuseIfCalledOff, Cond.code yX6_refuseIfCalledOff cX6_refuseIfCalledOff 1 none, Cond.fieldLink RX6 229 "Tureenlist" "calledOff" "Z", Cond.methodLink RX6 47 yJx4a65c_size_8abf5, Cond.instanceMethod yJx4a65c_size_8abf5, Cond.selects RJx4a65c yJx4a65c_size_8abf5 yJx4a65c_size_8abf5, Cond.initialized RJx4a65c, Cond.code yJx4a65c_size_8abf5 cJx4a65c_size_8abf5 1 (some .int), Cond.fieldLink RJx4a65c 48 "java/util/ArrayList" "size" "I"]
def wsX6_shared_r2 : List Cond := [Cond.methodLink RX6 58 yX5_init, Cond.instanceMethod yX5_init, Cond.code yX5_init cX5_init 5 none, Cond.methodLink RX5 1 objectInit, Cond.instanceMethod objectInit, Cond.code objectInit ⟨#[0xb1]⟩ 1 none, Cond.fieldLink RX5 7 "Tureenlist$Wish" "number" "I", Cond.fieldLink RX5 13 "Tureenlist$Wish" "count" "I", Cond.fieldLink RX5 16 "Tureenlist$Wish" "cost" "I", Cond.fieldLink RX5 19 "Tureenlist$Wish" "forMany" "Z", Cond.classLink RX5 23 RJx4a65c, Cond.instantiable RJx4a65c 3, Cond.fieldLink RX5 26 "Tureenlist$Wish" "pledges" "Ljava/util/ArrayList;", Cond.methodLink RX5 25 yJx4a65c_init_da8c8, Cond.instanceMethod yJx4a65c_init_da8c8, Cond.code yJx4a65c_init_da8c8 cJx4a65c_init_da8c8 1 none, Cond.fieldLink RJx4a65c 39 "java/util/ArrayList" "DEFAULTCAPACITY_EMPTY_ELEMENTDATA" "[Ljava/lang/Object;", Cond.fieldLink RJx4a65c 9 "java/util/ArrayList" "elementData" "[Ljava/lang/Object;", Cond.methodLink RJx4a65c 1 yJxc12de_init_da8c8, Cond.instanceMethod yJxc12de_init_da8c8, Cond.initialized RJxc12de, Cond.code yJxc12de_init_da8c8 cJxc12de_init_da8c8 1 none, Cond.fieldLink RJxc12de 7 "java/util/AbstractList" "modCount" "I", Cond.methodLink RJxc12de 1 yJxa1e45_init_da8c8]
def wsX6_shared_r3 : List Cond := [Cond.instanceMethod yJxa1e45_init_da8c8, Cond.initialized RJxa1e45, Cond.code yJxa1e45_init_da8c8 cJxa1e45_init_da8c8 1 none, Cond.methodLink RJxa1e45 1 objectInit, Cond.methodLink RX6 61 yJx4a65c_add_9ea2d, Cond.instanceMethod yJx4a65c_add_9ea2d, Cond.selects RJx4a65c yJx4a65c_add_9ea2d yJx4a65c_add_9ea2d, Cond.code yJx4a65c_add_9ea2d cJx4a65c_add_9ea2d 2 (some .boolean), Cond.fieldLink RJx4a65c 63 "java/util/ArrayList" "modCount" "I", Cond.sameField "java/util/ArrayList" "java/util/AbstractList" "modCount" "I", Cond.methodLink RJx4a65c 131 yJx4a65c_add_72be8, Cond.instanceMethod yJx4a65c_add_72be8, Cond.selects RJx4a65c yJx4a65c_add_72be8 yJx4a65c_add_72be8, Cond.code yJx4a65c_add_72be8 cJx4a65c_add_72be8 4 none, Cond.methodLink RJx4a65c 129 yJx4a65c_grow_d5877, Cond.instanceMethod yJx4a65c_grow_d5877, Cond.selects RJx4a65c yJx4a65c_grow_d5877 yJx4a65c_grow_d5877, Cond.code yJx4a65c_grow_d5877 cJx4a65c_grow_d5877 1 (some (.array (.object "java/lang/Object"))), Cond.methodLink RJx4a65c 69 yJx4a65c_grow_92f84, Cond.instanceMethod yJx4a65c_grow_92f84, Cond.selects RJx4a65c yJx4a65c_grow_92f84 yJx4a65c_grow_92f84, Cond.code yJx4a65c_grow_92f84 cJx4a65c_grow_92f84 4 (some (.array (.object "java/lang/Object"))), Cond.methodLink RJx4a65c 79 Lib.Math.max.name, Cond.static Lib.Math.max.name]
def wsX6_shared_r4 : List Cond := [Cond.initialized "java/lang/Math", Cond.code Lib.Math.max.name Lib.Math.max.code 2 (some .int), Cond.classLink RJx4a65c 7 "java/lang/Object", Cond.methodLink RJx4a65c 73 yJ8_newLength_cabcc, Cond.static yJ8_newLength_cabcc, Cond.initialized RJ8, Cond.code yJ8_newLength_cabcc cJ8_newLength_cabcc 4 (some .int), Cond.methodLink RJ8 194 Lib.Math.max.name, Cond.constant RJ8 200 (2147483639), Cond.methodLink RJ8 201 yJ8_hugeLength_7cf53, Cond.static yJ8_hugeLength_7cf53, Cond.code yJ8_hugeLength_7cf53 cJ8_hugeLength_7cf53 3 (some .int), Cond.methodLink RJx4a65c 66 yJ7_copyOf_1904c, Cond.static yJ7_copyOf_1904c, Cond.initialized RJ7, Cond.code yJ7_copyOf_1904c cJ7_copyOf_1904c 2 (some (.array (.object "java/lang/Object"))), Cond.methodLink RJ7 86 ⟨"java/lang/Object", "getClass", "()Ljava/lang/Class;"⟩, Cond.selects "[Ljava/lang/Object;" ⟨"java/lang/Object", "getClass", "()Ljava/lang/Class;"⟩ ⟨"java/lang/Object", "getClass", "()Ljava/lang/Class;"⟩, Cond.instanceMethod ⟨"java/lang/Object", "getClass", "()Ljava/lang/Class;"⟩, Cond.native ⟨"java/lang/Object", "getClass", "()Ljava/lang/Class;"⟩, Cond.methodLink RJ7 300 yJ7_copyOf_6403c, Cond.static yJ7_copyOf_6403c, Cond.code yJ7_copyOf_6403c cJ7_copyOf_6403c 4 (some (.array (.object "java/lang/Object"))), Cond.classLink RJ7 110 "[Ljava/lang/Object;"]
def wsX6_shared_r5 : List Cond := [Cond.classLink RJ7 2 "java/lang/Object", Cond.methodLink RJ7 304 Lib.Math.min.name, Cond.static Lib.Math.min.name, Cond.code Lib.Math.min.name Lib.Math.min.code 2 (some .int), Cond.methodLink RJ7 150 arraycopyName, Cond.native arraycopyName, Cond.static arraycopyName, Cond.initialized "java/lang/System"]
def wsX6_shared : List Cond := .code yX6_shared cX6_shared 2 (some .int) :: ((wsX6_shared_r1 ++ (wsX6_shared_r2 ++ (wsX6_shared_r3 ++ (wsX6_shared_r4 ++ wsX6_shared_r5)))) ++ wsX60 ++ wsX50 ++ wsJx4a65c0 ++ (vx_atS RX6 33 "java/lang/IllegalArgumentException" ["java/lang/RuntimeException", "java/lang/Exception"]).filter goodWord ++ (vx_atS RX6 55 "java/lang/IllegalStateException" ["java/lang/RuntimeException", "java/lang/Exception"]).filter goodWord)
def wsX6_guest_r1 : List Cond := [Cond.classLink RX6 29 "java/lang/IllegalArgumentException", Cond.initialized "java/lang/IllegalArgumentException", Cond.classLink RX6 51 "java/lang/IllegalStateException", Cond.initialized "java/lang/IllegalStateException", Cond.fieldLink RX6 16 "Tureenlist" "guests" "Ljava/util/ArrayList;", Cond.classLink RX6 69 RX2, Cond.instantiable RX2 2, Cond.initialized RX2, Cond.methodLink RX6 47 yJx4a65c_size_8abf5, Cond.instanceMethod yJx4a65c_size_8abf5, Cond.selects RJx4a65c yJx4a65c_size_8abf5 yJx4a65c_size_8abf5, Cond.initialized RJx4a65c, Cond.code yJx4a65c_size_8abf5 cJx4a65c_size_8abf5 1 (some .int), Cond.fieldLink RJx4a65c 48 "java/util/ArrayList" "size" "I", Cond.methodLink RX6 71 yX2_init, Cond.instanceMethod yX2_init, Cond.code yX2_init cX2_init 3 none, Cond.methodLink RX2 1 objectInit, Cond.instanceMethod objectInit, Cond.code objectInit ⟨#[0xb1]⟩ 1 none, Cond.fieldLink RX2 7 "Tureenlist$Guest" "number" "I", Cond.fieldLink RX2 13 "Tureenlist$Guest" "purse" "I", Cond.methodLink RX6 61 yJx4a65c_add_9ea2d, Cond.instanceMethod yJx4a65c_add_9ea2d]
def wsX6_guest_r2 : List Cond := [Cond.selects RJx4a65c yJx4a65c_add_9ea2d yJx4a65c_add_9ea2d, Cond.code yJx4a65c_add_9ea2d cJx4a65c_add_9ea2d 2 (some .boolean), Cond.fieldLink RJx4a65c 63 "java/util/ArrayList" "modCount" "I", Cond.sameField "java/util/ArrayList" "java/util/AbstractList" "modCount" "I", Cond.fieldLink RJx4a65c 9 "java/util/ArrayList" "elementData" "[Ljava/lang/Object;", Cond.methodLink RJx4a65c 131 yJx4a65c_add_72be8, Cond.instanceMethod yJx4a65c_add_72be8, Cond.selects RJx4a65c yJx4a65c_add_72be8 yJx4a65c_add_72be8, Cond.code yJx4a65c_add_72be8 cJx4a65c_add_72be8 4 none, Cond.methodLink RJx4a65c 129 yJx4a65c_grow_d5877, Cond.instanceMethod yJx4a65c_grow_d5877, Cond.selects RJx4a65c yJx4a65c_grow_d5877 yJx4a65c_grow_d5877, Cond.code yJx4a65c_grow_d5877 cJx4a65c_grow_d5877 1 (some (.array (.object "java/lang/Object"))), Cond.methodLink RJx4a65c 69 yJx4a65c_grow_92f84, Cond.instanceMethod yJx4a65c_grow_92f84, Cond.selects RJx4a65c yJx4a65c_grow_92f84 yJx4a65c_grow_92f84, Cond.code yJx4a65c_grow_92f84 cJx4a65c_grow_92f84 4 (some (.array (.object "java/lang/Object"))), Cond.fieldLink RJx4a65c 39 "java/util/ArrayList" "DEFAULTCAPACITY_EMPTY_ELEMENTDATA" "[Ljava/lang/Object;", Cond.methodLink RJx4a65c 79 Lib.Math.max.name, Cond.static Lib.Math.max.name, Cond.initialized "java/lang/Math", Cond.code Lib.Math.max.name Lib.Math.max.code 2 (some .int), Cond.classLink RJx4a65c 7 "java/lang/Object", Cond.methodLink RJx4a65c 73 yJ8_newLength_cabcc]
def wsX6_guest_r3 : List Cond := [Cond.static yJ8_newLength_cabcc, Cond.initialized RJ8, Cond.code yJ8_newLength_cabcc cJ8_newLength_cabcc 4 (some .int), Cond.methodLink RJ8 194 Lib.Math.max.name, Cond.constant RJ8 200 (2147483639), Cond.methodLink RJ8 201 yJ8_hugeLength_7cf53, Cond.static yJ8_hugeLength_7cf53, Cond.code yJ8_hugeLength_7cf53 cJ8_hugeLength_7cf53 3 (some .int), Cond.methodLink RJx4a65c 66 yJ7_copyOf_1904c, Cond.static yJ7_copyOf_1904c, Cond.initialized RJ7, Cond.code yJ7_copyOf_1904c cJ7_copyOf_1904c 2 (some (.array (.object "java/lang/Object"))), Cond.methodLink RJ7 86 ⟨"java/lang/Object", "getClass", "()Ljava/lang/Class;"⟩, Cond.selects "[Ljava/lang/Object;" ⟨"java/lang/Object", "getClass", "()Ljava/lang/Class;"⟩ ⟨"java/lang/Object", "getClass", "()Ljava/lang/Class;"⟩, Cond.instanceMethod ⟨"java/lang/Object", "getClass", "()Ljava/lang/Class;"⟩, Cond.native ⟨"java/lang/Object", "getClass", "()Ljava/lang/Class;"⟩, Cond.methodLink RJ7 300 yJ7_copyOf_6403c, Cond.static yJ7_copyOf_6403c, Cond.code yJ7_copyOf_6403c cJ7_copyOf_6403c 4 (some (.array (.object "java/lang/Object"))), Cond.classLink RJ7 110 "[Ljava/lang/Object;", Cond.classLink RJ7 2 "java/lang/Object", Cond.methodLink RJ7 304 Lib.Math.min.name, Cond.static Lib.Math.min.name, Cond.code Lib.Math.min.name Lib.Math.min.code 2 (some .int)]
def wsX6_guest_r4 : List Cond := [Cond.methodLink RJ7 150 arraycopyName, Cond.native arraycopyName, Cond.static arraycopyName, Cond.initialized "java/lang/System"]
def wsX6_guest : List Cond := .code yX6_guest cX6_guest 3 (some .int) :: ((wsX6_guest_r1 ++ (wsX6_guest_r2 ++ (wsX6_guest_r3 ++ wsX6_guest_r4))) ++ wsX60 ++ wsX20 ++ wsJx4a65c0 ++ (vx_atS RX6 33 "java/lang/IllegalArgumentException" ["java/lang/RuntimeException", "java/lang/Exception"]).filter goodWord ++ (vx_atS RX6 55 "java/lang/IllegalStateException" ["java/lang/RuntimeException", "java/lang/Exception"]).filter goodWord)
def wsX6_wishNumbered_r1 : List Cond := [Cond.classLink RX6 284 "java/lang/IndexOutOfBoundsException", Cond.initialized "java/lang/IndexOutOfBoundsException", Cond.fieldLink RX6 12 "Tureenlist" "wishes" "Ljava/util/ArrayList;", Cond.classLink RX6 56 "Tureenlist$Wish", Cond.methodLink RX6 47 yJx4a65c_size_8abf5, Cond.instanceMethod yJx4a65c_size_8abf5, Cond.selects RJx4a65c yJx4a65c_size_8abf5 yJx4a65c_size_8abf5, Cond.initialized RJx4a65c, Cond.code yJx4a65c_size_8abf5 cJx4a65c_size_8abf5 1 (some .int), Cond.fieldLink RJx4a65c 48 "java/util/ArrayList" "size" "I", Cond.methodLink RX6 122 yJx4a65c_get_915e3, Cond.instanceMethod yJx4a65c_get_915e3, Cond.selects RJx4a65c yJx4a65c_get_915e3 yJx4a65c_get_915e3, Cond.code yJx4a65c_get_915e3 cJx4a65c_get_915e3 2 (some (.object "java/lang/Object")), Cond.methodLink RJx4a65c 118 yJ15_checkIndex_7cf53, Cond.static yJ15_checkIndex_7cf53, Cond.initialized RJ15, Cond.code yJ15_checkIndex_7cf53 cJ15_checkIndex_7cf53 2 (some .int), Cond.methodLink RJ15 105 yJ3_checkIndex_8e157, Cond.static yJ3_checkIndex_8e157, Cond.initialized RJ3, Cond.code yJ3_checkIndex_8e157 cJ3_checkIndex_8e157 3 (some .int), Cond.methodLink RJx4a65c 123 yJx4a65c_elementData_915e3, Cond.instanceMethod yJx4a65c_elementData_915e3]
def wsX6_wishNumbered_r2 : List Cond := [Cond.selects RJx4a65c yJx4a65c_elementData_915e3 yJx4a65c_elementData_915e3, Cond.code yJx4a65c_elementData_915e3 cJx4a65c_elementData_915e3 2 (some (.object "java/lang/Object")), Cond.fieldLink RJx4a65c 9 "java/util/ArrayList" "elementData" "[Ljava/lang/Object;"]
def wsX6_wishNumbered : List Cond := .code yX6_wishNumbered cX6_wishNumbered 2 (some (.object "Tureenlist$Wish")) :: ((wsX6_wishNumbered_r1 ++ wsX6_wishNumbered_r2) ++ wsX60 ++ wsJx4a65c0 ++ (vx_atS RX6 286 "java/lang/IndexOutOfBoundsException" ["java/lang/RuntimeException", "java/lang/Exception"]).filter goodWord)
def wsX6_refuseIfSettled_r1 : List Cond := [Cond.classLink RX6 51 "java/lang/IllegalStateException", Cond.initialized "java/lang/IllegalStateException", Cond.fieldLink RX6 98 "Tureenlist$Wish" "struck" "Z", Cond.methodLink RX6 44 yX6_refuseIfCalledOff, Cond.instanceMethod yX6_refuseIfCalledOff, Cond.selects RX6 yX6_refuseIfCalledOff yX6_refuseIfCalledOff, Cond.initialized RX6, Cond.code yX6_refuseIfCalledOff cX6_refuseIfCalledOff 1 none, Cond.fieldLink RX6 229 "Tureenlist" "calledOff" "Z", Cond.methodLink RX6 242 yX5_isOrdered, Cond.instanceMethod yX5_isOrdered, Cond.selects RX5 yX5_isOrdered yX5_isOrdered, Cond.initialized RX5, Cond.code yX5_isOrdered cX5_isOrdered 1 (some .boolean), Cond.fieldLink RX5 19 "Tureenlist$Wish" "forMany" "Z", Cond.methodLink RX5 56 yX5_lacking, Cond.instanceMethod yX5_lacking, Cond.selects RX5 yX5_lacking yX5_lacking, Cond.code yX5_lacking cX5_lacking 1 (some .int), Cond.fieldLink RX5 16 "Tureenlist$Wish" "cost" "I", Cond.methodLink RX5 50 Lib.Math.max.name, Cond.static Lib.Math.max.name, Cond.initialized "java/lang/Math", Cond.code Lib.Math.max.name Lib.Math.max.code 2 (some .int)]
def wsX6_refuseIfSettled_r2 : List Cond := [Cond.methodLink RX5 47 yX5_pledged, Cond.instanceMethod yX5_pledged, Cond.selects RX5 yX5_pledged yX5_pledged, Cond.code yX5_pledged cX5_pledged 3 (some .int), Cond.fieldLink RX5 26 "Tureenlist$Wish" "pledges" "Ljava/util/ArrayList;", Cond.classLink RX5 38 "Tureenlist$Pledge", Cond.fieldLink RX5 40 "Tureenlist$Pledge" "pence" "I", Cond.methodLink RX5 30 yJx4a65c_size_8abf5, Cond.instanceMethod yJx4a65c_size_8abf5, Cond.selects RJx4a65c yJx4a65c_size_8abf5 yJx4a65c_size_8abf5, Cond.initialized RJx4a65c, Cond.code yJx4a65c_size_8abf5 cJx4a65c_size_8abf5 1 (some .int), Cond.fieldLink RJx4a65c 48 "java/util/ArrayList" "size" "I", Cond.methodLink RX5 34 yJx4a65c_get_915e3, Cond.instanceMethod yJx4a65c_get_915e3, Cond.selects RJx4a65c yJx4a65c_get_915e3 yJx4a65c_get_915e3, Cond.code yJx4a65c_get_915e3 cJx4a65c_get_915e3 2 (some (.object "java/lang/Object")), Cond.methodLink RJx4a65c 118 yJ15_checkIndex_7cf53, Cond.static yJ15_checkIndex_7cf53, Cond.initialized RJ15, Cond.code yJ15_checkIndex_7cf53 cJ15_checkIndex_7cf53 2 (some .int), Cond.methodLink RJ15 105 yJ3_checkIndex_8e157, Cond.static yJ3_checkIndex_8e157, Cond.initialized RJ3]
def wsX6_refuseIfSettled_r3 : List Cond := [Cond.code yJ3_checkIndex_8e157 cJ3_checkIndex_8e157 3 (some .int), Cond.methodLink RJx4a65c 123 yJx4a65c_elementData_915e3, Cond.instanceMethod yJx4a65c_elementData_915e3, Cond.selects RJx4a65c yJx4a65c_elementData_915e3 yJx4a65c_elementData_915e3, Cond.code yJx4a65c_elementData_915e3 cJx4a65c_elementData_915e3 2 (some (.object "java/lang/Object")), Cond.fieldLink RJx4a65c 9 "java/util/ArrayList" "elementData" "[Ljava/lang/Object;"]
def wsX6_refuseIfSettled : List Cond := .code yX6_refuseIfSettled cX6_refuseIfSettled 2 none :: ((wsX6_refuseIfSettled_r1 ++ (wsX6_refuseIfSettled_r2 ++ wsX6_refuseIfSettled_r3)) ++ wsX50 ++ wsX60 ++ wsX40 ++ wsJx4a65c0 ++ (vx_atS RX6 55 "java/lang/IllegalStateException" ["java/lang/RuntimeException", "java/lang/Exception"]).filter goodWord)
def wsX6_payBack : List Cond := .code yX6_payBack cX6_payBack 3 none :: ([.fieldLink RX6 158 "Tureenlist$Guest" "purse" "I", .fieldLink RX6 306 "Tureenlist" "wentBackEver" "I"] ++ wsX20 ++ wsX60)
def wsJx4a65c_fastRemove_b59b0 : List Cond := .code yJx4a65c_fastRemove_b59b0 cJx4a65c_fastRemove_b59b0 4 none :: ([.fieldLink RJx4a65c 63 "java/util/ArrayList" "modCount" "I", .sameField "java/util/ArrayList" "java/util/AbstractList" "modCount" "I", .fieldLink RJx4a65c 48 "java/util/ArrayList" "size" "I", .methodLink RJx4a65c 112 arraycopyName, .native arraycopyName, .static arraycopyName, .initialized "java/lang/System"] ++ wsJx4a65c0)
def wsJx4a65c_remove_915e3 : List Cond := .code yJx4a65c_remove_915e3 cJx4a65c_remove_915e3 4 (some (.object "java/lang/Object")) :: ([.fieldLink RJx4a65c 48 "java/util/ArrayList" "size" "I", .fieldLink RJx4a65c 9 "java/util/ArrayList" "elementData" "[Ljava/lang/Object;", .methodLink RJx4a65c 118 yJ15_checkIndex_7cf53, .static yJ15_checkIndex_7cf53, .initialized RJ15, .code yJ15_checkIndex_7cf53 cJ15_checkIndex_7cf53 2 (some .int), .methodLink RJ15 105 yJ3_checkIndex_8e157, .static yJ3_checkIndex_8e157, .initialized RJ3, .code yJ3_checkIndex_8e157 cJ3_checkIndex_8e157 3 (some .int), .methodLink RJx4a65c 144 yJx4a65c_fastRemove_b59b0, .instanceMethod yJx4a65c_fastRemove_b59b0, .selects RJx4a65c yJx4a65c_fastRemove_b59b0 yJx4a65c_fastRemove_b59b0, .initialized RJx4a65c, .code yJx4a65c_fastRemove_b59b0 cJx4a65c_fastRemove_b59b0 4 none, .fieldLink RJx4a65c 63 "java/util/ArrayList" "modCount" "I", .sameField "java/util/ArrayList" "java/util/AbstractList" "modCount" "I", .methodLink RJx4a65c 112 arraycopyName, .native arraycopyName, .static arraycopyName, .initialized "java/lang/System"] ++ wsJx4a65c0)
def wsX6_sendPledgesBack_r1 : List Cond := [Cond.methodLink RX6 408 Lib.Math.max.name, Cond.static Lib.Math.max.name, Cond.initialized "java/lang/Math", Cond.code Lib.Math.max.name Lib.Math.max.code 2 (some .int), Cond.fieldLink RX6 215 "Tureenlist$Wish" "pledges" "Ljava/util/ArrayList;", Cond.classLink RX6 218 "Tureenlist$Pledge", Cond.fieldLink RX6 411 "Tureenlist$Pledge" "pence" "I", Cond.methodLink RX6 209 Lib.Math.min.name, Cond.static Lib.Math.min.name, Cond.code Lib.Math.min.name Lib.Math.min.code 2 (some .int), Cond.fieldLink RX6 414 "Tureenlist$Pledge" "by" "LTureenlist$Guest;", Cond.methodLink RX6 47 yJx4a65c_size_8abf5, Cond.instanceMethod yJx4a65c_size_8abf5, Cond.selects RJx4a65c yJx4a65c_size_8abf5 yJx4a65c_size_8abf5, Cond.initialized RJx4a65c, Cond.code yJx4a65c_size_8abf5 cJx4a65c_size_8abf5 1 (some .int), Cond.fieldLink RJx4a65c 48 "java/util/ArrayList" "size" "I", Cond.methodLink RX6 122 yJx4a65c_get_915e3, Cond.instanceMethod yJx4a65c_get_915e3, Cond.selects RJx4a65c yJx4a65c_get_915e3 yJx4a65c_get_915e3, Cond.code yJx4a65c_get_915e3 cJx4a65c_get_915e3 2 (some (.object "java/lang/Object")), Cond.methodLink RJx4a65c 118 yJ15_checkIndex_7cf53, Cond.static yJ15_checkIndex_7cf53, Cond.initialized RJ15]
def wsX6_sendPledgesBack_r2 : List Cond := [Cond.code yJ15_checkIndex_7cf53 cJ15_checkIndex_7cf53 2 (some .int), Cond.methodLink RJ15 105 yJ3_checkIndex_8e157, Cond.static yJ3_checkIndex_8e157, Cond.initialized RJ3, Cond.code yJ3_checkIndex_8e157 cJ3_checkIndex_8e157 3 (some .int), Cond.methodLink RJx4a65c 123 yJx4a65c_elementData_915e3, Cond.instanceMethod yJx4a65c_elementData_915e3, Cond.selects RJx4a65c yJx4a65c_elementData_915e3 yJx4a65c_elementData_915e3, Cond.code yJx4a65c_elementData_915e3 cJx4a65c_elementData_915e3 2 (some (.object "java/lang/Object")), Cond.fieldLink RJx4a65c 9 "java/util/ArrayList" "elementData" "[Ljava/lang/Object;", Cond.methodLink RX6 405 yX6_payBack, Cond.instanceMethod yX6_payBack, Cond.selects RX6 yX6_payBack yX6_payBack, Cond.initialized RX6, Cond.code yX6_payBack cX6_payBack 3 none, Cond.fieldLink RX6 158 "Tureenlist$Guest" "purse" "I", Cond.fieldLink RX6 306 "Tureenlist" "wentBackEver" "I", Cond.methodLink RX6 415 yJx4a65c_remove_915e3, Cond.instanceMethod yJx4a65c_remove_915e3, Cond.selects RJx4a65c yJx4a65c_remove_915e3 yJx4a65c_remove_915e3, Cond.code yJx4a65c_remove_915e3 cJx4a65c_remove_915e3 4 (some (.object "java/lang/Object")), Cond.methodLink RJx4a65c 144 yJx4a65c_fastRemove_b59b0, Cond.instanceMethod yJx4a65c_fastRemove_b59b0, Cond.selects RJx4a65c yJx4a65c_fastRemove_b59b0 yJx4a65c_fastRemove_b59b0]
def wsX6_sendPledgesBack_r3 : List Cond := [Cond.code yJx4a65c_fastRemove_b59b0 cJx4a65c_fastRemove_b59b0 4 none, Cond.fieldLink RJx4a65c 63 "java/util/ArrayList" "modCount" "I", Cond.sameField "java/util/ArrayList" "java/util/AbstractList" "modCount" "I", Cond.methodLink RJx4a65c 112 arraycopyName, Cond.native arraycopyName, Cond.static arraycopyName, Cond.initialized "java/lang/System"]
def wsX6_sendPledgesBack : List Cond := .code yX6_sendPledgesBack cX6_sendPledgesBack 8 (some .int) :: ((wsX6_sendPledgesBack_r1 ++ (wsX6_sendPledgesBack_r2 ++ wsX6_sendPledgesBack_r3)) ++ wsX50 ++ wsX40 ++ wsJx4a65c0 ++ wsX20 ++ wsX60)
def wsX6_price_r1 : List Cond := [Cond.classLink RX6 29 "java/lang/IllegalArgumentException", Cond.initialized "java/lang/IllegalArgumentException", Cond.fieldLink RX6 78 "Tureenlist$Wish" "forMany" "Z", Cond.fieldLink RX6 88 "Tureenlist$Wish" "cost" "I", Cond.methodLink RX6 74 yX6_wishNumbered, Cond.instanceMethod yX6_wishNumbered, Cond.selects RX6 yX6_wishNumbered yX6_wishNumbered, Cond.initialized RX6, Cond.code yX6_wishNumbered cX6_wishNumbered 2 (some (.object "Tureenlist$Wish")), Cond.classLink RX6 284 "java/lang/IndexOutOfBoundsException", Cond.initialized "java/lang/IndexOutOfBoundsException", Cond.fieldLink RX6 12 "Tureenlist" "wishes" "Ljava/util/ArrayList;", Cond.classLink RX6 56 "Tureenlist$Wish", Cond.methodLink RX6 47 yJx4a65c_size_8abf5, Cond.instanceMethod yJx4a65c_size_8abf5, Cond.selects RJx4a65c yJx4a65c_size_8abf5 yJx4a65c_size_8abf5, Cond.initialized RJx4a65c, Cond.code yJx4a65c_size_8abf5 cJx4a65c_size_8abf5 1 (some .int), Cond.fieldLink RJx4a65c 48 "java/util/ArrayList" "size" "I", Cond.methodLink RX6 122 yJx4a65c_get_915e3, Cond.instanceMethod yJx4a65c_get_915e3, Cond.selects RJx4a65c yJx4a65c_get_915e3 yJx4a65c_get_915e3, Cond.code yJx4a65c_get_915e3 cJx4a65c_get_915e3 2 (some (.object "java/lang/Object")), Cond.methodLink RJx4a65c 118 yJ15_checkIndex_7cf53]
def wsX6_price_r2 : List Cond := [Cond.static yJ15_checkIndex_7cf53, Cond.initialized RJ15, Cond.code yJ15_checkIndex_7cf53 cJ15_checkIndex_7cf53 2 (some .int), Cond.methodLink RJ15 105 yJ3_checkIndex_8e157, Cond.static yJ3_checkIndex_8e157, Cond.initialized RJ3, Cond.code yJ3_checkIndex_8e157 cJ3_checkIndex_8e157 3 (some .int), Cond.methodLink RJx4a65c 123 yJx4a65c_elementData_915e3, Cond.instanceMethod yJx4a65c_elementData_915e3, Cond.selects RJx4a65c yJx4a65c_elementData_915e3 yJx4a65c_elementData_915e3, Cond.code yJx4a65c_elementData_915e3 cJx4a65c_elementData_915e3 2 (some (.object "java/lang/Object")), Cond.fieldLink RJx4a65c 9 "java/util/ArrayList" "elementData" "[Ljava/lang/Object;", Cond.methodLink RX6 84 yX6_refuseIfSettled, Cond.instanceMethod yX6_refuseIfSettled, Cond.selects RX6 yX6_refuseIfSettled yX6_refuseIfSettled, Cond.code yX6_refuseIfSettled cX6_refuseIfSettled 2 none, Cond.classLink RX6 51 "java/lang/IllegalStateException", Cond.initialized "java/lang/IllegalStateException", Cond.fieldLink RX6 98 "Tureenlist$Wish" "struck" "Z", Cond.methodLink RX6 44 yX6_refuseIfCalledOff, Cond.instanceMethod yX6_refuseIfCalledOff, Cond.selects RX6 yX6_refuseIfCalledOff yX6_refuseIfCalledOff, Cond.code yX6_refuseIfCalledOff cX6_refuseIfCalledOff 1 none, Cond.fieldLink RX6 229 "Tureenlist" "calledOff" "Z"]
def wsX6_price_r3 : List Cond := [Cond.methodLink RX6 242 yX5_isOrdered, Cond.instanceMethod yX5_isOrdered, Cond.selects RX5 yX5_isOrdered yX5_isOrdered, Cond.initialized RX5, Cond.code yX5_isOrdered cX5_isOrdered 1 (some .boolean), Cond.fieldLink RX5 19 "Tureenlist$Wish" "forMany" "Z", Cond.methodLink RX5 56 yX5_lacking, Cond.instanceMethod yX5_lacking, Cond.selects RX5 yX5_lacking yX5_lacking, Cond.code yX5_lacking cX5_lacking 1 (some .int), Cond.fieldLink RX5 16 "Tureenlist$Wish" "cost" "I", Cond.methodLink RX5 50 Lib.Math.max.name, Cond.static Lib.Math.max.name, Cond.initialized "java/lang/Math", Cond.code Lib.Math.max.name Lib.Math.max.code 2 (some .int), Cond.methodLink RX5 47 yX5_pledged, Cond.instanceMethod yX5_pledged, Cond.selects RX5 yX5_pledged yX5_pledged, Cond.code yX5_pledged cX5_pledged 3 (some .int), Cond.fieldLink RX5 26 "Tureenlist$Wish" "pledges" "Ljava/util/ArrayList;", Cond.classLink RX5 38 "Tureenlist$Pledge", Cond.fieldLink RX5 40 "Tureenlist$Pledge" "pence" "I", Cond.methodLink RX5 30 yJx4a65c_size_8abf5, Cond.methodLink RX5 34 yJx4a65c_get_915e3]
def wsX6_price_r4 : List Cond := [Cond.methodLink RX6 91 yX5_pledged, Cond.methodLink RX6 94 yX6_sendPledgesBack, Cond.instanceMethod yX6_sendPledgesBack, Cond.selects RX6 yX6_sendPledgesBack yX6_sendPledgesBack, Cond.code yX6_sendPledgesBack cX6_sendPledgesBack 8 (some .int), Cond.methodLink RX6 408 Lib.Math.max.name, Cond.fieldLink RX6 215 "Tureenlist$Wish" "pledges" "Ljava/util/ArrayList;", Cond.classLink RX6 218 "Tureenlist$Pledge", Cond.fieldLink RX6 411 "Tureenlist$Pledge" "pence" "I", Cond.methodLink RX6 209 Lib.Math.min.name, Cond.static Lib.Math.min.name, Cond.code Lib.Math.min.name Lib.Math.min.code 2 (some .int), Cond.fieldLink RX6 414 "Tureenlist$Pledge" "by" "LTureenlist$Guest;", Cond.methodLink RX6 405 yX6_payBack, Cond.instanceMethod yX6_payBack, Cond.selects RX6 yX6_payBack yX6_payBack, Cond.code yX6_payBack cX6_payBack 3 none, Cond.fieldLink RX6 158 "Tureenlist$Guest" "purse" "I", Cond.fieldLink RX6 306 "Tureenlist" "wentBackEver" "I", Cond.methodLink RX6 415 yJx4a65c_remove_915e3, Cond.instanceMethod yJx4a65c_remove_915e3, Cond.selects RJx4a65c yJx4a65c_remove_915e3 yJx4a65c_remove_915e3, Cond.code yJx4a65c_remove_915e3 cJx4a65c_remove_915e3 4 (some (.object "java/lang/Object")), Cond.methodLink RJx4a65c 144 yJx4a65c_fastRemove_b59b0]
def wsX6_price_r5 : List Cond := [Cond.instanceMethod yJx4a65c_fastRemove_b59b0, Cond.selects RJx4a65c yJx4a65c_fastRemove_b59b0 yJx4a65c_fastRemove_b59b0, Cond.code yJx4a65c_fastRemove_b59b0 cJx4a65c_fastRemove_b59b0 4 none, Cond.fieldLink RJx4a65c 63 "java/util/ArrayList" "modCount" "I", Cond.sameField "java/util/ArrayList" "java/util/AbstractList" "modCount" "I", Cond.methodLink RJx4a65c 112 arraycopyName, Cond.native arraycopyName, Cond.static arraycopyName, Cond.initialized "java/lang/System"]
def wsX6_price : List Cond := .code yX6_price cX6_price 4 (some .int) :: ((wsX6_price_r1 ++ (wsX6_price_r2 ++ (wsX6_price_r3 ++ (wsX6_price_r4 ++ wsX6_price_r5)))) ++ wsX50 ++ wsX60 ++ wsJx4a65c0 ++ wsX40 ++ wsX20 ++ (vx_atS RX6 33 "java/lang/IllegalArgumentException" ["java/lang/RuntimeException", "java/lang/Exception"]).filter goodWord ++ (vx_atS RX6 286 "java/lang/IndexOutOfBoundsException" ["java/lang/RuntimeException", "java/lang/Exception"]).filter goodWord ++ (vx_atS RX6 55 "java/lang/IllegalStateException" ["java/lang/RuntimeException", "java/lang/Exception"]).filter goodWord)
def wsX6_strike_r1 : List Cond := [Cond.fieldLink RX6 98 "Tureenlist$Wish" "struck" "Z", Cond.methodLink RX6 74 yX6_wishNumbered, Cond.instanceMethod yX6_wishNumbered, Cond.selects RX6 yX6_wishNumbered yX6_wishNumbered, Cond.initialized RX6, Cond.code yX6_wishNumbered cX6_wishNumbered 2 (some (.object "Tureenlist$Wish")), Cond.classLink RX6 284 "java/lang/IndexOutOfBoundsException", Cond.initialized "java/lang/IndexOutOfBoundsException", Cond.fieldLink RX6 12 "Tureenlist" "wishes" "Ljava/util/ArrayList;", Cond.classLink RX6 56 "Tureenlist$Wish", Cond.methodLink RX6 47 yJx4a65c_size_8abf5, Cond.instanceMethod yJx4a65c_size_8abf5, Cond.selects RJx4a65c yJx4a65c_size_8abf5 yJx4a65c_size_8abf5, Cond.initialized RJx4a65c, Cond.code yJx4a65c_size_8abf5 cJx4a65c_size_8abf5 1 (some .int), Cond.fieldLink RJx4a65c 48 "java/util/ArrayList" "size" "I", Cond.methodLink RX6 122 yJx4a65c_get_915e3, Cond.instanceMethod yJx4a65c_get_915e3, Cond.selects RJx4a65c yJx4a65c_get_915e3 yJx4a65c_get_915e3, Cond.code yJx4a65c_get_915e3 cJx4a65c_get_915e3 2 (some (.object "java/lang/Object")), Cond.methodLink RJx4a65c 118 yJ15_checkIndex_7cf53, Cond.static yJ15_checkIndex_7cf53, Cond.initialized RJ15, Cond.code yJ15_checkIndex_7cf53 cJ15_checkIndex_7cf53 2 (some .int)]
def wsX6_strike_r2 : List Cond := [Cond.methodLink RJ15 105 yJ3_checkIndex_8e157, Cond.static yJ3_checkIndex_8e157, Cond.initialized RJ3, Cond.code yJ3_checkIndex_8e157 cJ3_checkIndex_8e157 3 (some .int), Cond.methodLink RJx4a65c 123 yJx4a65c_elementData_915e3, Cond.instanceMethod yJx4a65c_elementData_915e3, Cond.selects RJx4a65c yJx4a65c_elementData_915e3 yJx4a65c_elementData_915e3, Cond.code yJx4a65c_elementData_915e3 cJx4a65c_elementData_915e3 2 (some (.object "java/lang/Object")), Cond.fieldLink RJx4a65c 9 "java/util/ArrayList" "elementData" "[Ljava/lang/Object;", Cond.methodLink RX6 84 yX6_refuseIfSettled, Cond.instanceMethod yX6_refuseIfSettled, Cond.selects RX6 yX6_refuseIfSettled yX6_refuseIfSettled, Cond.code yX6_refuseIfSettled cX6_refuseIfSettled 2 none, Cond.classLink RX6 51 "java/lang/IllegalStateException", Cond.initialized "java/lang/IllegalStateException", Cond.methodLink RX6 44 yX6_refuseIfCalledOff, Cond.instanceMethod yX6_refuseIfCalledOff, Cond.selects RX6 yX6_refuseIfCalledOff yX6_refuseIfCalledOff, Cond.code yX6_refuseIfCalledOff cX6_refuseIfCalledOff 1 none, Cond.fieldLink RX6 229 "Tureenlist" "calledOff" "Z", Cond.methodLink RX6 242 yX5_isOrdered, Cond.instanceMethod yX5_isOrdered, Cond.selects RX5 yX5_isOrdered yX5_isOrdered, Cond.initialized RX5]
def wsX6_strike_r3 : List Cond := [Cond.code yX5_isOrdered cX5_isOrdered 1 (some .boolean), Cond.fieldLink RX5 19 "Tureenlist$Wish" "forMany" "Z", Cond.methodLink RX5 56 yX5_lacking, Cond.instanceMethod yX5_lacking, Cond.selects RX5 yX5_lacking yX5_lacking, Cond.code yX5_lacking cX5_lacking 1 (some .int), Cond.fieldLink RX5 16 "Tureenlist$Wish" "cost" "I", Cond.methodLink RX5 50 Lib.Math.max.name, Cond.static Lib.Math.max.name, Cond.initialized "java/lang/Math", Cond.code Lib.Math.max.name Lib.Math.max.code 2 (some .int), Cond.methodLink RX5 47 yX5_pledged, Cond.instanceMethod yX5_pledged, Cond.selects RX5 yX5_pledged yX5_pledged, Cond.code yX5_pledged cX5_pledged 3 (some .int), Cond.fieldLink RX5 26 "Tureenlist$Wish" "pledges" "Ljava/util/ArrayList;", Cond.classLink RX5 38 "Tureenlist$Pledge", Cond.fieldLink RX5 40 "Tureenlist$Pledge" "pence" "I", Cond.methodLink RX5 30 yJx4a65c_size_8abf5, Cond.methodLink RX5 34 yJx4a65c_get_915e3, Cond.methodLink RX6 91 yX5_pledged, Cond.methodLink RX6 94 yX6_sendPledgesBack, Cond.instanceMethod yX6_sendPledgesBack, Cond.selects RX6 yX6_sendPledgesBack yX6_sendPledgesBack]
def wsX6_strike_r4 : List Cond := [Cond.code yX6_sendPledgesBack cX6_sendPledgesBack 8 (some .int), Cond.methodLink RX6 408 Lib.Math.max.name, Cond.fieldLink RX6 215 "Tureenlist$Wish" "pledges" "Ljava/util/ArrayList;", Cond.classLink RX6 218 "Tureenlist$Pledge", Cond.fieldLink RX6 411 "Tureenlist$Pledge" "pence" "I", Cond.methodLink RX6 209 Lib.Math.min.name, Cond.static Lib.Math.min.name, Cond.code Lib.Math.min.name Lib.Math.min.code 2 (some .int), Cond.fieldLink RX6 414 "Tureenlist$Pledge" "by" "LTureenlist$Guest;", Cond.methodLink RX6 405 yX6_payBack, Cond.instanceMethod yX6_payBack, Cond.selects RX6 yX6_payBack yX6_payBack, Cond.code yX6_payBack cX6_payBack 3 none, Cond.fieldLink RX6 158 "Tureenlist$Guest" "purse" "I", Cond.fieldLink RX6 306 "Tureenlist" "wentBackEver" "I", Cond.methodLink RX6 415 yJx4a65c_remove_915e3, Cond.instanceMethod yJx4a65c_remove_915e3, Cond.selects RJx4a65c yJx4a65c_remove_915e3 yJx4a65c_remove_915e3, Cond.code yJx4a65c_remove_915e3 cJx4a65c_remove_915e3 4 (some (.object "java/lang/Object")), Cond.methodLink RJx4a65c 144 yJx4a65c_fastRemove_b59b0, Cond.instanceMethod yJx4a65c_fastRemove_b59b0, Cond.selects RJx4a65c yJx4a65c_fastRemove_b59b0 yJx4a65c_fastRemove_b59b0, Cond.code yJx4a65c_fastRemove_b59b0 cJx4a65c_fastRemove_b59b0 4 none, Cond.fieldLink RJx4a65c 63 "java/util/ArrayList" "modCount" "I"]
def wsX6_strike_r5 : List Cond := [Cond.sameField "java/util/ArrayList" "java/util/AbstractList" "modCount" "I", Cond.methodLink RJx4a65c 112 arraycopyName, Cond.native arraycopyName, Cond.static arraycopyName, Cond.initialized "java/lang/System"]
def wsX6_strike : List Cond := .code yX6_strike cX6_strike 3 (some .int) :: ((wsX6_strike_r1 ++ (wsX6_strike_r2 ++ (wsX6_strike_r3 ++ (wsX6_strike_r4 ++ wsX6_strike_r5)))) ++ wsX50 ++ wsX60 ++ wsJx4a65c0 ++ wsX40 ++ wsX20 ++ (vx_atS RX6 286 "java/lang/IndexOutOfBoundsException" ["java/lang/RuntimeException", "java/lang/Exception"]).filter goodWord ++ (vx_atS RX6 55 "java/lang/IllegalStateException" ["java/lang/RuntimeException", "java/lang/Exception"]).filter goodWord)
def wsX6_checkTill : List Cond := .code yX6_checkTill cX6_checkTill 1 none :: ([.classLink RX6 284 "java/lang/IndexOutOfBoundsException", .initialized "java/lang/IndexOutOfBoundsException"] ++ (vx_atS RX6 286 "java/lang/IndexOutOfBoundsException" ["java/lang/RuntimeException", "java/lang/Exception"]).filter goodWord)
def wsX6_isJoined : List Cond := .code yX6_isJoined cX6_isJoined 2 (some .boolean) :: ([.fieldLink RX6 25 "Tureenlist" "joined" "I"] ++ wsX60)
def wsJ6_bitCount_0f7a4 : List Cond := .code yJ6_bitCount_0f7a4 cJ6_bitCount_0f7a4 1 (some .int) :: ([.constant RJ6 265 (1431655765), .constant RJ6 266 (858993459), .constant RJ6 267 (252645135)])
def wsX6_apart_r1 : List Cond := [Cond.classLink RX6 51 "java/lang/IllegalStateException", Cond.initialized "java/lang/IllegalStateException", Cond.fieldLink RX6 25 "Tureenlist" "joined" "I", Cond.methodLink RX6 101 yX6_checkTill, Cond.static yX6_checkTill, Cond.initialized RX6, Cond.code yX6_checkTill cX6_checkTill 1 none, Cond.classLink RX6 284 "java/lang/IndexOutOfBoundsException", Cond.initialized "java/lang/IndexOutOfBoundsException", Cond.methodLink RX6 44 yX6_refuseIfCalledOff, Cond.instanceMethod yX6_refuseIfCalledOff, Cond.selects RX6 yX6_refuseIfCalledOff yX6_refuseIfCalledOff, Cond.code yX6_refuseIfCalledOff cX6_refuseIfCalledOff 1 none, Cond.fieldLink RX6 229 "Tureenlist" "calledOff" "Z", Cond.methodLink RX6 105 yX6_isJoined, Cond.instanceMethod yX6_isJoined, Cond.selects RX6 yX6_isJoined yX6_isJoined, Cond.code yX6_isJoined cX6_isJoined 2 (some .boolean), Cond.methodLink RX6 111 yJ6_bitCount_0f7a4, Cond.static yJ6_bitCount_0f7a4, Cond.initialized RJ6, Cond.code yJ6_bitCount_0f7a4 cJ6_bitCount_0f7a4 1 (some .int), Cond.constant RJ6 265 (1431655765), Cond.constant RJ6 266 (858993459)]
def wsX6_apart_r2 : List Cond := [Cond.constant RJ6 267 (252645135)]
def wsX6_apart : List Cond := .code yX6_apart cX6_apart 2 (some .int) :: ((wsX6_apart_r1 ++ wsX6_apart_r2) ++ wsX60 ++ (vx_atS RX6 55 "java/lang/IllegalStateException" ["java/lang/RuntimeException", "java/lang/Exception"]).filter goodWord ++ (vx_atS RX6 286 "java/lang/IndexOutOfBoundsException" ["java/lang/RuntimeException", "java/lang/Exception"]).filter goodWord)
def wsX6_showAllDeeds_r1 : List Cond := [Cond.fieldLink RX6 19 "Tureenlist" "gifts" "Ljava/util/ArrayList;", Cond.classLink RX6 171 "Tureenlist$Gift", Cond.fieldLink RX6 25 "Tureenlist" "joined" "I", Cond.fieldLink RX6 22 "Tureenlist" "holds" "Ljava/util/ArrayList;", Cond.classLink RX6 143 "Tureenlist$Hold", Cond.methodLink RX6 47 yJx4a65c_size_8abf5, Cond.instanceMethod yJx4a65c_size_8abf5, Cond.selects RJx4a65c yJx4a65c_size_8abf5 yJx4a65c_size_8abf5, Cond.initialized RJx4a65c, Cond.code yJx4a65c_size_8abf5 cJx4a65c_size_8abf5 1 (some .int), Cond.fieldLink RJx4a65c 48 "java/util/ArrayList" "size" "I", Cond.methodLink RX6 122 yJx4a65c_get_915e3, Cond.instanceMethod yJx4a65c_get_915e3, Cond.selects RJx4a65c yJx4a65c_get_915e3 yJx4a65c_get_915e3, Cond.code yJx4a65c_get_915e3 cJx4a65c_get_915e3 2 (some (.object "java/lang/Object")), Cond.methodLink RJx4a65c 118 yJ15_checkIndex_7cf53, Cond.static yJ15_checkIndex_7cf53, Cond.initialized RJ15, Cond.code yJ15_checkIndex_7cf53 cJ15_checkIndex_7cf53 2 (some .int), Cond.methodLink RJ15 105 yJ3_checkIndex_8e157, Cond.static yJ3_checkIndex_8e157, Cond.initialized RJ3, Cond.code yJ3_checkIndex_8e157 cJ3_checkIndex_8e157 3 (some .int), Cond.methodLink RJx4a65c 123 yJx4a65c_elementData_915e3]
def wsX6_showAllDeeds_r2 : List Cond := [Cond.instanceMethod yJx4a65c_elementData_915e3, Cond.selects RJx4a65c yJx4a65c_elementData_915e3 yJx4a65c_elementData_915e3, Cond.code yJx4a65c_elementData_915e3 cJx4a65c_elementData_915e3 2 (some (.object "java/lang/Object")), Cond.fieldLink RJx4a65c 9 "java/util/ArrayList" "elementData" "[Ljava/lang/Object;", Cond.methodLink RX6 176 ⟨"Tureenlist$Gift", "showTo", "(I)V"⟩, Cond.sameMethod "Tureenlist$Gift" "Tureenlist$Deed" "showTo" "(I)V", Cond.selects RX1 ⟨"Tureenlist$Gift", "showTo", "(I)V"⟩ yX0_showTo, Cond.instanceMethod yX0_showTo, Cond.initialized RX0, Cond.code yX0_showTo cX0_showTo 2 none, Cond.fieldLink RX0 17 "Tureenlist$Deed" "till" "I", Cond.fieldLink RX0 27 "Tureenlist$Deed" "open" "Z", Cond.fieldLink RX0 24 "Tureenlist$Deed" "seers" "I", Cond.methodLink RX6 151 ⟨"Tureenlist$Hold", "showTo", "(I)V"⟩, Cond.sameMethod "Tureenlist$Hold" "Tureenlist$Deed" "showTo" "(I)V", Cond.selects RX3 ⟨"Tureenlist$Hold", "showTo", "(I)V"⟩ yX0_showTo]
def wsX6_showAllDeeds : List Cond := .code yX6_showAllDeeds cX6_showAllDeeds 2 none :: ((wsX6_showAllDeeds_r1 ++ wsX6_showAllDeeds_r2) ++ wsX60 ++ wsJx4a65c0 ++ wsX10 ++ wsX30)
def wsX6_tooManyWith_r1 : List Cond := [Cond.fieldLink RX6 19 "Tureenlist" "gifts" "Ljava/util/ArrayList;", Cond.classLink RX6 171 "Tureenlist$Gift", Cond.fieldLink RX6 185 "Tureenlist$Gift" "of" "LTureenlist$Wish;", Cond.sameField "Tureenlist$Gift" "Tureenlist$Deed" "of" "LTureenlist$Wish;", Cond.fieldLink RX6 291 "Tureenlist$Gift" "till" "I", Cond.sameField "Tureenlist$Gift" "Tureenlist$Deed" "till" "I", Cond.fieldLink RX6 232 "Tureenlist$Wish" "count" "I", Cond.methodLink RX6 408 Lib.Math.max.name, Cond.static Lib.Math.max.name, Cond.initialized "java/lang/Math", Cond.code Lib.Math.max.name Lib.Math.max.code 2 (some .int), Cond.methodLink RX6 47 yJx4a65c_size_8abf5, Cond.instanceMethod yJx4a65c_size_8abf5, Cond.selects RJx4a65c yJx4a65c_size_8abf5 yJx4a65c_size_8abf5, Cond.initialized RJx4a65c, Cond.code yJx4a65c_size_8abf5 cJx4a65c_size_8abf5 1 (some .int), Cond.fieldLink RJx4a65c 48 "java/util/ArrayList" "size" "I", Cond.methodLink RX6 122 yJx4a65c_get_915e3, Cond.instanceMethod yJx4a65c_get_915e3, Cond.selects RJx4a65c yJx4a65c_get_915e3 yJx4a65c_get_915e3, Cond.code yJx4a65c_get_915e3 cJx4a65c_get_915e3 2 (some (.object "java/lang/Object")), Cond.methodLink RJx4a65c 118 yJ15_checkIndex_7cf53, Cond.static yJ15_checkIndex_7cf53, Cond.initialized RJ15]
def wsX6_tooManyWith_r2 : List Cond := [Cond.code yJ15_checkIndex_7cf53 cJ15_checkIndex_7cf53 2 (some .int), Cond.methodLink RJ15 105 yJ3_checkIndex_8e157, Cond.static yJ3_checkIndex_8e157, Cond.initialized RJ3, Cond.code yJ3_checkIndex_8e157 cJ3_checkIndex_8e157 3 (some .int), Cond.methodLink RJx4a65c 123 yJx4a65c_elementData_915e3, Cond.instanceMethod yJx4a65c_elementData_915e3, Cond.selects RJx4a65c yJx4a65c_elementData_915e3 yJx4a65c_elementData_915e3, Cond.code yJx4a65c_elementData_915e3 cJx4a65c_elementData_915e3 2 (some (.object "java/lang/Object")), Cond.fieldLink RJx4a65c 9 "java/util/ArrayList" "elementData" "[Ljava/lang/Object;", Cond.methodLink RX6 177 yX1_isKept, Cond.instanceMethod yX1_isKept, Cond.selects RX1 yX1_isKept yX1_isKept, Cond.initialized RX1, Cond.code yX1_isKept cX1_isKept 1 (some .boolean), Cond.fieldLink RX1 18 "Tureenlist$Gift" "state" "I", Cond.methodLink RX6 418 ⟨"Tureenlist$Gift", "isOpen", "()Z"⟩, Cond.sameMethod "Tureenlist$Gift" "Tureenlist$Deed" "isOpen" "()Z", Cond.selects RX1 ⟨"Tureenlist$Gift", "isOpen", "()Z"⟩ yX0_isOpen, Cond.instanceMethod yX0_isOpen, Cond.initialized RX0, Cond.code yX0_isOpen cX0_isOpen 1 (some .boolean), Cond.fieldLink RX0 27 "Tureenlist$Deed" "open" "Z"]
def wsX6_tooManyWith : List Cond := .code yX6_tooManyWith cX6_tooManyWith 6 (some .int) :: ((wsX6_tooManyWith_r1 ++ wsX6_tooManyWith_r2) ++ wsX60 ++ wsX10 ++ wsX30 ++ wsX50 ++ wsJx4a65c0)
def wsX6_endGift : List Cond := .code yX6_endGift cX6_endGift 3 (some .int) :: ([.fieldLink RX6 297 "Tureenlist$Gift" "state" "I", .fieldLink RX6 181 "Tureenlist$Gift" "by" "LTureenlist$Guest;", .sameField "Tureenlist$Gift" "Tureenlist$Deed" "by" "LTureenlist$Guest;", .fieldLink RX6 294 "Tureenlist$Gift" "paid" "I", .methodLink RX6 405 yX6_payBack, .instanceMethod yX6_payBack, .selects RX6 yX6_payBack yX6_payBack, .initialized RX6, .code yX6_payBack cX6_payBack 3 none, .fieldLink RX6 158 "Tureenlist$Guest" "purse" "I", .fieldLink RX6 306 "Tureenlist" "wentBackEver" "I"] ++ wsX10 ++ wsX30 ++ wsX20 ++ wsX60)
def wsX6_takeBackLast_r1 : List Cond := [Cond.fieldLink RX6 19 "Tureenlist" "gifts" "Ljava/util/ArrayList;", Cond.classLink RX6 171 "Tureenlist$Gift", Cond.fieldLink RX6 185 "Tureenlist$Gift" "of" "LTureenlist$Wish;", Cond.sameField "Tureenlist$Gift" "Tureenlist$Deed" "of" "LTureenlist$Wish;", Cond.methodLink RX6 47 yJx4a65c_size_8abf5, Cond.instanceMethod yJx4a65c_size_8abf5, Cond.selects RJx4a65c yJx4a65c_size_8abf5 yJx4a65c_size_8abf5, Cond.initialized RJx4a65c, Cond.code yJx4a65c_size_8abf5 cJx4a65c_size_8abf5 1 (some .int), Cond.fieldLink RJx4a65c 48 "java/util/ArrayList" "size" "I", Cond.methodLink RX6 122 yJx4a65c_get_915e3, Cond.instanceMethod yJx4a65c_get_915e3, Cond.selects RJx4a65c yJx4a65c_get_915e3 yJx4a65c_get_915e3, Cond.code yJx4a65c_get_915e3 cJx4a65c_get_915e3 2 (some (.object "java/lang/Object")), Cond.methodLink RJx4a65c 118 yJ15_checkIndex_7cf53, Cond.static yJ15_checkIndex_7cf53, Cond.initialized RJ15, Cond.code yJ15_checkIndex_7cf53 cJ15_checkIndex_7cf53 2 (some .int), Cond.methodLink RJ15 105 yJ3_checkIndex_8e157, Cond.static yJ3_checkIndex_8e157, Cond.initialized RJ3, Cond.code yJ3_checkIndex_8e157 cJ3_checkIndex_8e157 3 (some .int), Cond.methodLink RJx4a65c 123 yJx4a65c_elementData_915e3, Cond.instanceMethod yJx4a65c_elementData_915e3]
def wsX6_takeBackLast_r2 : List Cond := [Cond.selects RJx4a65c yJx4a65c_elementData_915e3 yJx4a65c_elementData_915e3, Cond.code yJx4a65c_elementData_915e3 cJx4a65c_elementData_915e3 2 (some (.object "java/lang/Object")), Cond.fieldLink RJx4a65c 9 "java/util/ArrayList" "elementData" "[Ljava/lang/Object;", Cond.methodLink RX6 177 yX1_isKept, Cond.instanceMethod yX1_isKept, Cond.selects RX1 yX1_isKept yX1_isKept, Cond.initialized RX1, Cond.code yX1_isKept cX1_isKept 1 (some .boolean), Cond.fieldLink RX1 18 "Tureenlist$Gift" "state" "I", Cond.methodLink RX6 418 ⟨"Tureenlist$Gift", "isOpen", "()Z"⟩, Cond.sameMethod "Tureenlist$Gift" "Tureenlist$Deed" "isOpen" "()Z", Cond.selects RX1 ⟨"Tureenlist$Gift", "isOpen", "()Z"⟩ yX0_isOpen, Cond.instanceMethod yX0_isOpen, Cond.initialized RX0, Cond.code yX0_isOpen cX0_isOpen 1 (some .boolean), Cond.fieldLink RX0 27 "Tureenlist$Deed" "open" "Z", Cond.methodLink RX6 424 yX1_isBehind, Cond.instanceMethod yX1_isBehind, Cond.selects RX1 yX1_isBehind yX1_isBehind, Cond.code yX1_isBehind cX1_isBehind 2 (some .boolean), Cond.fieldLink RX1 21 "Tureenlist$Gift" "since" "I", Cond.sameField "Tureenlist$Gift" "Tureenlist$Deed" "since" "I", Cond.fieldLink RX1 24 "Tureenlist$Gift" "till" "I", Cond.sameField "Tureenlist$Gift" "Tureenlist$Deed" "till" "I"]
def wsX6_takeBackLast_r3 : List Cond := [Cond.fieldLink RX1 9 "Tureenlist$Gift" "number" "I", Cond.methodLink RX6 194 yX6_endGift, Cond.instanceMethod yX6_endGift, Cond.selects RX6 yX6_endGift yX6_endGift, Cond.initialized RX6, Cond.code yX6_endGift cX6_endGift 3 (some .int), Cond.fieldLink RX6 297 "Tureenlist$Gift" "state" "I", Cond.fieldLink RX6 181 "Tureenlist$Gift" "by" "LTureenlist$Guest;", Cond.sameField "Tureenlist$Gift" "Tureenlist$Deed" "by" "LTureenlist$Guest;", Cond.fieldLink RX6 294 "Tureenlist$Gift" "paid" "I", Cond.methodLink RX6 405 yX6_payBack, Cond.instanceMethod yX6_payBack, Cond.selects RX6 yX6_payBack yX6_payBack, Cond.code yX6_payBack cX6_payBack 3 none, Cond.fieldLink RX6 158 "Tureenlist$Guest" "purse" "I", Cond.fieldLink RX6 306 "Tureenlist" "wentBackEver" "I"]
def wsX6_takeBackLast : List Cond := .code yX6_takeBackLast cX6_takeBackLast 5 none :: ((wsX6_takeBackLast_r1 ++ (wsX6_takeBackLast_r2 ++ wsX6_takeBackLast_r3)) ++ wsX60 ++ wsX10 ++ wsX30 ++ wsJx4a65c0 ++ wsX20)
def wsX6_takeBackTooMany_r1 : List Cond := [Cond.methodLink RX6 334 yX6_tooManyWith, Cond.instanceMethod yX6_tooManyWith, Cond.selects RX6 yX6_tooManyWith yX6_tooManyWith, Cond.initialized RX6, Cond.code yX6_tooManyWith cX6_tooManyWith 6 (some .int), Cond.fieldLink RX6 19 "Tureenlist" "gifts" "Ljava/util/ArrayList;", Cond.classLink RX6 171 "Tureenlist$Gift", Cond.fieldLink RX6 185 "Tureenlist$Gift" "of" "LTureenlist$Wish;", Cond.sameField "Tureenlist$Gift" "Tureenlist$Deed" "of" "LTureenlist$Wish;", Cond.fieldLink RX6 291 "Tureenlist$Gift" "till" "I", Cond.sameField "Tureenlist$Gift" "Tureenlist$Deed" "till" "I", Cond.fieldLink RX6 232 "Tureenlist$Wish" "count" "I", Cond.methodLink RX6 408 Lib.Math.max.name, Cond.static Lib.Math.max.name, Cond.initialized "java/lang/Math", Cond.code Lib.Math.max.name Lib.Math.max.code 2 (some .int), Cond.methodLink RX6 47 yJx4a65c_size_8abf5, Cond.instanceMethod yJx4a65c_size_8abf5, Cond.selects RJx4a65c yJx4a65c_size_8abf5 yJx4a65c_size_8abf5, Cond.initialized RJx4a65c, Cond.code yJx4a65c_size_8abf5 cJx4a65c_size_8abf5 1 (some .int), Cond.fieldLink RJx4a65c 48 "java/util/ArrayList" "size" "I", Cond.methodLink RX6 122 yJx4a65c_get_915e3, Cond.instanceMethod yJx4a65c_get_915e3]
def wsX6_takeBackTooMany_r2 : List Cond := [Cond.selects RJx4a65c yJx4a65c_get_915e3 yJx4a65c_get_915e3, Cond.code yJx4a65c_get_915e3 cJx4a65c_get_915e3 2 (some (.object "java/lang/Object")), Cond.methodLink RJx4a65c 118 yJ15_checkIndex_7cf53, Cond.static yJ15_checkIndex_7cf53, Cond.initialized RJ15, Cond.code yJ15_checkIndex_7cf53 cJ15_checkIndex_7cf53 2 (some .int), Cond.methodLink RJ15 105 yJ3_checkIndex_8e157, Cond.static yJ3_checkIndex_8e157, Cond.initialized RJ3, Cond.code yJ3_checkIndex_8e157 cJ3_checkIndex_8e157 3 (some .int), Cond.methodLink RJx4a65c 123 yJx4a65c_elementData_915e3, Cond.instanceMethod yJx4a65c_elementData_915e3, Cond.selects RJx4a65c yJx4a65c_elementData_915e3 yJx4a65c_elementData_915e3, Cond.code yJx4a65c_elementData_915e3 cJx4a65c_elementData_915e3 2 (some (.object "java/lang/Object")), Cond.fieldLink RJx4a65c 9 "java/util/ArrayList" "elementData" "[Ljava/lang/Object;", Cond.methodLink RX6 177 yX1_isKept, Cond.instanceMethod yX1_isKept, Cond.selects RX1 yX1_isKept yX1_isKept, Cond.initialized RX1, Cond.code yX1_isKept cX1_isKept 1 (some .boolean), Cond.fieldLink RX1 18 "Tureenlist$Gift" "state" "I", Cond.methodLink RX6 418 ⟨"Tureenlist$Gift", "isOpen", "()Z"⟩, Cond.sameMethod "Tureenlist$Gift" "Tureenlist$Deed" "isOpen" "()Z", Cond.selects RX1 ⟨"Tureenlist$Gift", "isOpen", "()Z"⟩ yX0_isOpen]
def wsX6_takeBackTooMany_r3 : List Cond := [Cond.instanceMethod yX0_isOpen, Cond.initialized RX0, Cond.code yX0_isOpen cX0_isOpen 1 (some .boolean), Cond.fieldLink RX0 27 "Tureenlist$Deed" "open" "Z", Cond.methodLink RX6 421 yX6_takeBackLast, Cond.instanceMethod yX6_takeBackLast, Cond.selects RX6 yX6_takeBackLast yX6_takeBackLast, Cond.code yX6_takeBackLast cX6_takeBackLast 5 none, Cond.methodLink RX6 424 yX1_isBehind, Cond.instanceMethod yX1_isBehind, Cond.selects RX1 yX1_isBehind yX1_isBehind, Cond.code yX1_isBehind cX1_isBehind 2 (some .boolean), Cond.fieldLink RX1 21 "Tureenlist$Gift" "since" "I", Cond.sameField "Tureenlist$Gift" "Tureenlist$Deed" "since" "I", Cond.fieldLink RX1 24 "Tureenlist$Gift" "till" "I", Cond.fieldLink RX1 9 "Tureenlist$Gift" "number" "I", Cond.methodLink RX6 194 yX6_endGift, Cond.instanceMethod yX6_endGift, Cond.selects RX6 yX6_endGift yX6_endGift, Cond.code yX6_endGift cX6_endGift 3 (some .int), Cond.fieldLink RX6 297 "Tureenlist$Gift" "state" "I", Cond.fieldLink RX6 181 "Tureenlist$Gift" "by" "LTureenlist$Guest;", Cond.sameField "Tureenlist$Gift" "Tureenlist$Deed" "by" "LTureenlist$Guest;", Cond.fieldLink RX6 294 "Tureenlist$Gift" "paid" "I"]
def wsX6_takeBackTooMany_r4 : List Cond := [Cond.methodLink RX6 405 yX6_payBack, Cond.instanceMethod yX6_payBack, Cond.selects RX6 yX6_payBack yX6_payBack, Cond.code yX6_payBack cX6_payBack 3 none, Cond.fieldLink RX6 158 "Tureenlist$Guest" "purse" "I", Cond.fieldLink RX6 306 "Tureenlist" "wentBackEver" "I"]
def wsX6_takeBackTooMany : List Cond := .code yX6_takeBackTooMany cX6_takeBackTooMany 5 (some .int) :: ((wsX6_takeBackTooMany_r1 ++ (wsX6_takeBackTooMany_r2 ++ (wsX6_takeBackTooMany_r3 ++ wsX6_takeBackTooMany_r4))) ++ wsX60 ++ wsX10 ++ wsX30 ++ wsX50 ++ wsJx4a65c0 ++ wsX20)
def wsX6_join_r1 : List Cond := [Cond.classLink RX6 51 "java/lang/IllegalStateException", Cond.initialized "java/lang/IllegalStateException", Cond.fieldLink RX6 25 "Tureenlist" "joined" "I", Cond.fieldLink RX6 12 "Tureenlist" "wishes" "Ljava/util/ArrayList;", Cond.classLink RX6 56 "Tureenlist$Wish", Cond.methodLink RX6 101 yX6_checkTill, Cond.static yX6_checkTill, Cond.initialized RX6, Cond.code yX6_checkTill cX6_checkTill 1 none, Cond.classLink RX6 284 "java/lang/IndexOutOfBoundsException", Cond.initialized "java/lang/IndexOutOfBoundsException", Cond.methodLink RX6 44 yX6_refuseIfCalledOff, Cond.instanceMethod yX6_refuseIfCalledOff, Cond.selects RX6 yX6_refuseIfCalledOff yX6_refuseIfCalledOff, Cond.code yX6_refuseIfCalledOff cX6_refuseIfCalledOff 1 none, Cond.fieldLink RX6 229 "Tureenlist" "calledOff" "Z", Cond.methodLink RX6 105 yX6_isJoined, Cond.instanceMethod yX6_isJoined, Cond.selects RX6 yX6_isJoined yX6_isJoined, Cond.code yX6_isJoined cX6_isJoined 2 (some .boolean), Cond.methodLink RX6 119 yX6_showAllDeeds, Cond.instanceMethod yX6_showAllDeeds, Cond.selects RX6 yX6_showAllDeeds yX6_showAllDeeds, Cond.code yX6_showAllDeeds cX6_showAllDeeds 2 none]
def wsX6_join_r2 : List Cond := [Cond.fieldLink RX6 19 "Tureenlist" "gifts" "Ljava/util/ArrayList;", Cond.classLink RX6 171 "Tureenlist$Gift", Cond.fieldLink RX6 22 "Tureenlist" "holds" "Ljava/util/ArrayList;", Cond.classLink RX6 143 "Tureenlist$Hold", Cond.methodLink RX6 47 yJx4a65c_size_8abf5, Cond.instanceMethod yJx4a65c_size_8abf5, Cond.selects RJx4a65c yJx4a65c_size_8abf5 yJx4a65c_size_8abf5, Cond.initialized RJx4a65c, Cond.code yJx4a65c_size_8abf5 cJx4a65c_size_8abf5 1 (some .int), Cond.fieldLink RJx4a65c 48 "java/util/ArrayList" "size" "I", Cond.methodLink RX6 122 yJx4a65c_get_915e3, Cond.instanceMethod yJx4a65c_get_915e3, Cond.selects RJx4a65c yJx4a65c_get_915e3 yJx4a65c_get_915e3, Cond.code yJx4a65c_get_915e3 cJx4a65c_get_915e3 2 (some (.object "java/lang/Object")), Cond.methodLink RJx4a65c 118 yJ15_checkIndex_7cf53, Cond.static yJ15_checkIndex_7cf53, Cond.initialized RJ15, Cond.code yJ15_checkIndex_7cf53 cJ15_checkIndex_7cf53 2 (some .int), Cond.methodLink RJ15 105 yJ3_checkIndex_8e157, Cond.static yJ3_checkIndex_8e157, Cond.initialized RJ3, Cond.code yJ3_checkIndex_8e157 cJ3_checkIndex_8e157 3 (some .int), Cond.methodLink RJx4a65c 123 yJx4a65c_elementData_915e3, Cond.instanceMethod yJx4a65c_elementData_915e3]
def wsX6_join_r3 : List Cond := [Cond.selects RJx4a65c yJx4a65c_elementData_915e3 yJx4a65c_elementData_915e3, Cond.code yJx4a65c_elementData_915e3 cJx4a65c_elementData_915e3 2 (some (.object "java/lang/Object")), Cond.fieldLink RJx4a65c 9 "java/util/ArrayList" "elementData" "[Ljava/lang/Object;", Cond.methodLink RX6 176 ⟨"Tureenlist$Gift", "showTo", "(I)V"⟩, Cond.sameMethod "Tureenlist$Gift" "Tureenlist$Deed" "showTo" "(I)V", Cond.selects RX1 ⟨"Tureenlist$Gift", "showTo", "(I)V"⟩ yX0_showTo, Cond.instanceMethod yX0_showTo, Cond.initialized RX0, Cond.code yX0_showTo cX0_showTo 2 none, Cond.fieldLink RX0 17 "Tureenlist$Deed" "till" "I", Cond.fieldLink RX0 27 "Tureenlist$Deed" "open" "Z", Cond.fieldLink RX0 24 "Tureenlist$Deed" "seers" "I", Cond.methodLink RX6 151 ⟨"Tureenlist$Hold", "showTo", "(I)V"⟩, Cond.sameMethod "Tureenlist$Hold" "Tureenlist$Deed" "showTo" "(I)V", Cond.selects RX3 ⟨"Tureenlist$Hold", "showTo", "(I)V"⟩ yX0_showTo, Cond.methodLink RX6 126 yX6_takeBackTooMany, Cond.instanceMethod yX6_takeBackTooMany, Cond.selects RX6 yX6_takeBackTooMany yX6_takeBackTooMany, Cond.code yX6_takeBackTooMany cX6_takeBackTooMany 5 (some .int), Cond.methodLink RX6 334 yX6_tooManyWith, Cond.instanceMethod yX6_tooManyWith, Cond.selects RX6 yX6_tooManyWith yX6_tooManyWith, Cond.code yX6_tooManyWith cX6_tooManyWith 6 (some .int), Cond.fieldLink RX6 185 "Tureenlist$Gift" "of" "LTureenlist$Wish;"]
def wsX6_join_r4 : List Cond := [Cond.sameField "Tureenlist$Gift" "Tureenlist$Deed" "of" "LTureenlist$Wish;", Cond.fieldLink RX6 291 "Tureenlist$Gift" "till" "I", Cond.sameField "Tureenlist$Gift" "Tureenlist$Deed" "till" "I", Cond.fieldLink RX6 232 "Tureenlist$Wish" "count" "I", Cond.methodLink RX6 408 Lib.Math.max.name, Cond.static Lib.Math.max.name, Cond.initialized "java/lang/Math", Cond.code Lib.Math.max.name Lib.Math.max.code 2 (some .int), Cond.methodLink RX6 177 yX1_isKept, Cond.instanceMethod yX1_isKept, Cond.selects RX1 yX1_isKept yX1_isKept, Cond.initialized RX1, Cond.code yX1_isKept cX1_isKept 1 (some .boolean), Cond.fieldLink RX1 18 "Tureenlist$Gift" "state" "I", Cond.methodLink RX6 418 ⟨"Tureenlist$Gift", "isOpen", "()Z"⟩, Cond.sameMethod "Tureenlist$Gift" "Tureenlist$Deed" "isOpen" "()Z", Cond.selects RX1 ⟨"Tureenlist$Gift", "isOpen", "()Z"⟩ yX0_isOpen, Cond.instanceMethod yX0_isOpen, Cond.code yX0_isOpen cX0_isOpen 1 (some .boolean), Cond.methodLink RX6 421 yX6_takeBackLast, Cond.instanceMethod yX6_takeBackLast, Cond.selects RX6 yX6_takeBackLast yX6_takeBackLast, Cond.code yX6_takeBackLast cX6_takeBackLast 5 none, Cond.methodLink RX6 424 yX1_isBehind]
def wsX6_join_r5 : List Cond := [Cond.instanceMethod yX1_isBehind, Cond.selects RX1 yX1_isBehind yX1_isBehind, Cond.code yX1_isBehind cX1_isBehind 2 (some .boolean), Cond.fieldLink RX1 21 "Tureenlist$Gift" "since" "I", Cond.sameField "Tureenlist$Gift" "Tureenlist$Deed" "since" "I", Cond.fieldLink RX1 24 "Tureenlist$Gift" "till" "I", Cond.fieldLink RX1 9 "Tureenlist$Gift" "number" "I", Cond.methodLink RX6 194 yX6_endGift, Cond.instanceMethod yX6_endGift, Cond.selects RX6 yX6_endGift yX6_endGift, Cond.code yX6_endGift cX6_endGift 3 (some .int), Cond.fieldLink RX6 297 "Tureenlist$Gift" "state" "I", Cond.fieldLink RX6 181 "Tureenlist$Gift" "by" "LTureenlist$Guest;", Cond.sameField "Tureenlist$Gift" "Tureenlist$Deed" "by" "LTureenlist$Guest;", Cond.fieldLink RX6 294 "Tureenlist$Gift" "paid" "I", Cond.methodLink RX6 405 yX6_payBack, Cond.instanceMethod yX6_payBack, Cond.selects RX6 yX6_payBack yX6_payBack, Cond.code yX6_payBack cX6_payBack 3 none, Cond.fieldLink RX6 158 "Tureenlist$Guest" "purse" "I", Cond.fieldLink RX6 306 "Tureenlist" "wentBackEver" "I"]
def wsX6_join : List Cond := .code yX6_join cX6_join 4 (some .int) :: ((wsX6_join_r1 ++ (wsX6_join_r2 ++ (wsX6_join_r3 ++ (wsX6_join_r4 ++ wsX6_join_r5)))) ++ wsX60 ++ wsJx4a65c0 ++ wsX10 ++ wsX30 ++ wsX50 ++ wsX20 ++ (vx_atS RX6 55 "java/lang/IllegalStateException" ["java/lang/RuntimeException", "java/lang/Exception"]).filter goodWord ++ (vx_atS RX6 286 "java/lang/IndexOutOfBoundsException" ["java/lang/RuntimeException", "java/lang/Exception"]).filter goodWord)
def wsX6_guestNumbered_r1 : List Cond := [Cond.classLink RX6 284 "java/lang/IndexOutOfBoundsException", Cond.initialized "java/lang/IndexOutOfBoundsException", Cond.fieldLink RX6 16 "Tureenlist" "guests" "Ljava/util/ArrayList;", Cond.classLink RX6 69 "Tureenlist$Guest", Cond.methodLink RX6 47 yJx4a65c_size_8abf5, Cond.instanceMethod yJx4a65c_size_8abf5, Cond.selects RJx4a65c yJx4a65c_size_8abf5 yJx4a65c_size_8abf5, Cond.initialized RJx4a65c, Cond.code yJx4a65c_size_8abf5 cJx4a65c_size_8abf5 1 (some .int), Cond.fieldLink RJx4a65c 48 "java/util/ArrayList" "size" "I", Cond.methodLink RX6 122 yJx4a65c_get_915e3, Cond.instanceMethod yJx4a65c_get_915e3, Cond.selects RJx4a65c yJx4a65c_get_915e3 yJx4a65c_get_915e3, Cond.code yJx4a65c_get_915e3 cJx4a65c_get_915e3 2 (some (.object "java/lang/Object")), Cond.methodLink RJx4a65c 118 yJ15_checkIndex_7cf53, Cond.static yJ15_checkIndex_7cf53, Cond.initialized RJ15, Cond.code yJ15_checkIndex_7cf53 cJ15_checkIndex_7cf53 2 (some .int), Cond.methodLink RJ15 105 yJ3_checkIndex_8e157, Cond.static yJ3_checkIndex_8e157, Cond.initialized RJ3, Cond.code yJ3_checkIndex_8e157 cJ3_checkIndex_8e157 3 (some .int), Cond.methodLink RJx4a65c 123 yJx4a65c_elementData_915e3, Cond.instanceMethod yJx4a65c_elementData_915e3]
def wsX6_guestNumbered_r2 : List Cond := [Cond.selects RJx4a65c yJx4a65c_elementData_915e3 yJx4a65c_elementData_915e3, Cond.code yJx4a65c_elementData_915e3 cJx4a65c_elementData_915e3 2 (some (.object "java/lang/Object")), Cond.fieldLink RJx4a65c 9 "java/util/ArrayList" "elementData" "[Ljava/lang/Object;"]
def wsX6_guestNumbered : List Cond := .code yX6_guestNumbered cX6_guestNumbered 2 (some (.object "Tureenlist$Guest")) :: ((wsX6_guestNumbered_r1 ++ wsX6_guestNumbered_r2) ++ wsX60 ++ wsJx4a65c0 ++ (vx_atS RX6 286 "java/lang/IndexOutOfBoundsException" ["java/lang/RuntimeException", "java/lang/Exception"]).filter goodWord)
def wsX6_keptOfSeenAt_r1 : List Cond := [Cond.fieldLink RX6 19 "Tureenlist" "gifts" "Ljava/util/ArrayList;", Cond.classLink RX6 171 "Tureenlist$Gift", Cond.fieldLink RX6 185 "Tureenlist$Gift" "of" "LTureenlist$Wish;", Cond.sameField "Tureenlist$Gift" "Tureenlist$Deed" "of" "LTureenlist$Wish;", Cond.methodLink RX6 47 yJx4a65c_size_8abf5, Cond.instanceMethod yJx4a65c_size_8abf5, Cond.selects RJx4a65c yJx4a65c_size_8abf5 yJx4a65c_size_8abf5, Cond.initialized RJx4a65c, Cond.code yJx4a65c_size_8abf5 cJx4a65c_size_8abf5 1 (some .int), Cond.fieldLink RJx4a65c 48 "java/util/ArrayList" "size" "I", Cond.methodLink RX6 122 yJx4a65c_get_915e3, Cond.instanceMethod yJx4a65c_get_915e3, Cond.selects RJx4a65c yJx4a65c_get_915e3 yJx4a65c_get_915e3, Cond.code yJx4a65c_get_915e3 cJx4a65c_get_915e3 2 (some (.object "java/lang/Object")), Cond.methodLink RJx4a65c 118 yJ15_checkIndex_7cf53, Cond.static yJ15_checkIndex_7cf53, Cond.initialized RJ15, Cond.code yJ15_checkIndex_7cf53 cJ15_checkIndex_7cf53 2 (some .int), Cond.methodLink RJ15 105 yJ3_checkIndex_8e157, Cond.static yJ3_checkIndex_8e157, Cond.initialized RJ3, Cond.code yJ3_checkIndex_8e157 cJ3_checkIndex_8e157 3 (some .int), Cond.methodLink RJx4a65c 123 yJx4a65c_elementData_915e3, Cond.instanceMethod yJx4a65c_elementData_915e3]
def wsX6_keptOfSeenAt_r2 : List Cond := [Cond.selects RJx4a65c yJx4a65c_elementData_915e3 yJx4a65c_elementData_915e3, Cond.code yJx4a65c_elementData_915e3 cJx4a65c_elementData_915e3 2 (some (.object "java/lang/Object")), Cond.fieldLink RJx4a65c 9 "java/util/ArrayList" "elementData" "[Ljava/lang/Object;", Cond.methodLink RX6 177 yX1_isKept, Cond.instanceMethod yX1_isKept, Cond.selects RX1 yX1_isKept yX1_isKept, Cond.initialized RX1, Cond.code yX1_isKept cX1_isKept 1 (some .boolean), Cond.fieldLink RX1 18 "Tureenlist$Gift" "state" "I", Cond.methodLink RX6 428 ⟨"Tureenlist$Gift", "isSeenAt", "(I)Z"⟩, Cond.sameMethod "Tureenlist$Gift" "Tureenlist$Deed" "isSeenAt" "(I)Z", Cond.selects RX1 ⟨"Tureenlist$Gift", "isSeenAt", "(I)Z"⟩ yX0_isSeenAt, Cond.instanceMethod yX0_isSeenAt, Cond.initialized RX0, Cond.code yX0_isSeenAt cX0_isSeenAt 2 (some .boolean), Cond.fieldLink RX0 24 "Tureenlist$Deed" "seers" "I"]
def wsX6_keptOfSeenAt : List Cond := .code yX6_keptOfSeenAt cX6_keptOfSeenAt 6 (some .int) :: ((wsX6_keptOfSeenAt_r1 ++ wsX6_keptOfSeenAt_r2) ++ wsX60 ++ wsX10 ++ wsX30 ++ wsJx4a65c0)
def wsX6_leftAt_r1 : List Cond := [Cond.fieldLink RX6 78 "Tureenlist$Wish" "forMany" "Z", Cond.fieldLink RX6 98 "Tureenlist$Wish" "struck" "Z", Cond.fieldLink RX6 232 "Tureenlist$Wish" "count" "I", Cond.fieldLink RX6 22 "Tureenlist" "holds" "Ljava/util/ArrayList;", Cond.classLink RX6 143 "Tureenlist$Hold", Cond.fieldLink RX6 434 "Tureenlist$Hold" "of" "LTureenlist$Wish;", Cond.sameField "Tureenlist$Hold" "Tureenlist$Deed" "of" "LTureenlist$Wish;", Cond.fieldLink RX6 145 "Tureenlist" "minute" "I", Cond.methodLink RX6 408 Lib.Math.max.name, Cond.static Lib.Math.max.name, Cond.initialized "java/lang/Math", Cond.code Lib.Math.max.name Lib.Math.max.code 2 (some .int), Cond.methodLink RX6 431 yX6_keptOfSeenAt, Cond.instanceMethod yX6_keptOfSeenAt, Cond.selects RX6 yX6_keptOfSeenAt yX6_keptOfSeenAt, Cond.initialized RX6, Cond.code yX6_keptOfSeenAt cX6_keptOfSeenAt 6 (some .int), Cond.fieldLink RX6 19 "Tureenlist" "gifts" "Ljava/util/ArrayList;", Cond.classLink RX6 171 "Tureenlist$Gift", Cond.fieldLink RX6 185 "Tureenlist$Gift" "of" "LTureenlist$Wish;", Cond.sameField "Tureenlist$Gift" "Tureenlist$Deed" "of" "LTureenlist$Wish;", Cond.methodLink RX6 47 yJx4a65c_size_8abf5, Cond.instanceMethod yJx4a65c_size_8abf5, Cond.selects RJx4a65c yJx4a65c_size_8abf5 yJx4a65c_size_8abf5]
def wsX6_leftAt_r2 : List Cond := [Cond.initialized RJx4a65c, Cond.code yJx4a65c_size_8abf5 cJx4a65c_size_8abf5 1 (some .int), Cond.fieldLink RJx4a65c 48 "java/util/ArrayList" "size" "I", Cond.methodLink RX6 122 yJx4a65c_get_915e3, Cond.instanceMethod yJx4a65c_get_915e3, Cond.selects RJx4a65c yJx4a65c_get_915e3 yJx4a65c_get_915e3, Cond.code yJx4a65c_get_915e3 cJx4a65c_get_915e3 2 (some (.object "java/lang/Object")), Cond.methodLink RJx4a65c 118 yJ15_checkIndex_7cf53, Cond.static yJ15_checkIndex_7cf53, Cond.initialized RJ15, Cond.code yJ15_checkIndex_7cf53 cJ15_checkIndex_7cf53 2 (some .int), Cond.methodLink RJ15 105 yJ3_checkIndex_8e157, Cond.static yJ3_checkIndex_8e157, Cond.initialized RJ3, Cond.code yJ3_checkIndex_8e157 cJ3_checkIndex_8e157 3 (some .int), Cond.methodLink RJx4a65c 123 yJx4a65c_elementData_915e3, Cond.instanceMethod yJx4a65c_elementData_915e3, Cond.selects RJx4a65c yJx4a65c_elementData_915e3 yJx4a65c_elementData_915e3, Cond.code yJx4a65c_elementData_915e3 cJx4a65c_elementData_915e3 2 (some (.object "java/lang/Object")), Cond.fieldLink RJx4a65c 9 "java/util/ArrayList" "elementData" "[Ljava/lang/Object;", Cond.methodLink RX6 177 yX1_isKept, Cond.instanceMethod yX1_isKept, Cond.selects RX1 yX1_isKept yX1_isKept, Cond.initialized RX1]
def wsX6_leftAt_r3 : List Cond := [Cond.code yX1_isKept cX1_isKept 1 (some .boolean), Cond.fieldLink RX1 18 "Tureenlist$Gift" "state" "I", Cond.methodLink RX6 428 ⟨"Tureenlist$Gift", "isSeenAt", "(I)Z"⟩, Cond.sameMethod "Tureenlist$Gift" "Tureenlist$Deed" "isSeenAt" "(I)Z", Cond.selects RX1 ⟨"Tureenlist$Gift", "isSeenAt", "(I)Z"⟩ yX0_isSeenAt, Cond.instanceMethod yX0_isSeenAt, Cond.initialized RX0, Cond.code yX0_isSeenAt cX0_isSeenAt 2 (some .boolean), Cond.fieldLink RX0 24 "Tureenlist$Deed" "seers" "I", Cond.methodLink RX6 435 yX3_standsAt, Cond.instanceMethod yX3_standsAt, Cond.selects RX3 yX3_standsAt yX3_standsAt, Cond.initialized RX3, Cond.code yX3_standsAt cX3_standsAt 2 (some .boolean), Cond.fieldLink RX3 13 "Tureenlist$Hold" "used" "Z", Cond.fieldLink RX3 17 "Tureenlist$Hold" "of" "LTureenlist$Wish;", Cond.fieldLink RX3 21 "Tureenlist$Wish" "struck" "Z", Cond.fieldLink RX3 26 "Tureenlist$Hold" "since" "I", Cond.sameField "Tureenlist$Hold" "Tureenlist$Deed" "since" "I", Cond.fieldLink RX3 7 "Tureenlist$Hold" "minutes" "I", Cond.methodLink RX6 438 ⟨"Tureenlist$Hold", "isSeenAt", "(I)Z"⟩, Cond.sameMethod "Tureenlist$Hold" "Tureenlist$Deed" "isSeenAt" "(I)Z", Cond.selects RX3 ⟨"Tureenlist$Hold", "isSeenAt", "(I)Z"⟩ yX0_isSeenAt]
def wsX6_leftAt : List Cond := .code yX6_leftAt cX6_leftAt 6 (some .int) :: ((wsX6_leftAt_r1 ++ (wsX6_leftAt_r2 ++ wsX6_leftAt_r3)) ++ wsX50 ++ wsX60 ++ wsX10 ++ wsX30 ++ wsJx4a65c0)
def wsX6_hold_r1 : List Cond := [Cond.classLink RX6 29 "java/lang/IllegalArgumentException", Cond.initialized "java/lang/IllegalArgumentException", Cond.classLink RX6 51 "java/lang/IllegalStateException", Cond.initialized "java/lang/IllegalStateException", Cond.fieldLink RX6 22 "Tureenlist" "holds" "Ljava/util/ArrayList;", Cond.classLink RX6 143 RX3, Cond.instantiable RX3 8, Cond.initialized RX3, Cond.fieldLink RX6 145 "Tureenlist" "minute" "I", Cond.fieldLink RX6 25 "Tureenlist" "joined" "I", Cond.methodLink RX6 101 yX6_checkTill, Cond.static yX6_checkTill, Cond.initialized RX6, Cond.code yX6_checkTill cX6_checkTill 1 none, Cond.classLink RX6 284 "java/lang/IndexOutOfBoundsException", Cond.initialized "java/lang/IndexOutOfBoundsException", Cond.methodLink RX6 129 yX6_guestNumbered, Cond.instanceMethod yX6_guestNumbered, Cond.selects RX6 yX6_guestNumbered yX6_guestNumbered, Cond.code yX6_guestNumbered cX6_guestNumbered 2 (some (.object "Tureenlist$Guest")), Cond.fieldLink RX6 16 "Tureenlist" "guests" "Ljava/util/ArrayList;", Cond.classLink RX6 69 "Tureenlist$Guest", Cond.methodLink RX6 47 yJx4a65c_size_8abf5, Cond.instanceMethod yJx4a65c_size_8abf5]
def wsX6_hold_r2 : List Cond := [Cond.selects RJx4a65c yJx4a65c_size_8abf5 yJx4a65c_size_8abf5, Cond.initialized RJx4a65c, Cond.code yJx4a65c_size_8abf5 cJx4a65c_size_8abf5 1 (some .int), Cond.fieldLink RJx4a65c 48 "java/util/ArrayList" "size" "I", Cond.methodLink RX6 122 yJx4a65c_get_915e3, Cond.instanceMethod yJx4a65c_get_915e3, Cond.selects RJx4a65c yJx4a65c_get_915e3 yJx4a65c_get_915e3, Cond.code yJx4a65c_get_915e3 cJx4a65c_get_915e3 2 (some (.object "java/lang/Object")), Cond.methodLink RJx4a65c 118 yJ15_checkIndex_7cf53, Cond.static yJ15_checkIndex_7cf53, Cond.initialized RJ15, Cond.code yJ15_checkIndex_7cf53 cJ15_checkIndex_7cf53 2 (some .int), Cond.methodLink RJ15 105 yJ3_checkIndex_8e157, Cond.static yJ3_checkIndex_8e157, Cond.initialized RJ3, Cond.code yJ3_checkIndex_8e157 cJ3_checkIndex_8e157 3 (some .int), Cond.methodLink RJx4a65c 123 yJx4a65c_elementData_915e3, Cond.instanceMethod yJx4a65c_elementData_915e3, Cond.selects RJx4a65c yJx4a65c_elementData_915e3 yJx4a65c_elementData_915e3, Cond.code yJx4a65c_elementData_915e3 cJx4a65c_elementData_915e3 2 (some (.object "java/lang/Object")), Cond.fieldLink RJx4a65c 9 "java/util/ArrayList" "elementData" "[Ljava/lang/Object;", Cond.methodLink RX6 74 yX6_wishNumbered, Cond.instanceMethod yX6_wishNumbered, Cond.selects RX6 yX6_wishNumbered yX6_wishNumbered]
def wsX6_hold_r3 : List Cond := [Cond.code yX6_wishNumbered cX6_wishNumbered 2 (some (.object "Tureenlist$Wish")), Cond.fieldLink RX6 12 "Tureenlist" "wishes" "Ljava/util/ArrayList;", Cond.classLink RX6 56 "Tureenlist$Wish", Cond.methodLink RX6 44 yX6_refuseIfCalledOff, Cond.instanceMethod yX6_refuseIfCalledOff, Cond.selects RX6 yX6_refuseIfCalledOff yX6_refuseIfCalledOff, Cond.code yX6_refuseIfCalledOff cX6_refuseIfCalledOff 1 none, Cond.fieldLink RX6 229 "Tureenlist" "calledOff" "Z", Cond.methodLink RX6 137 yX6_leftAt, Cond.instanceMethod yX6_leftAt, Cond.selects RX6 yX6_leftAt yX6_leftAt, Cond.code yX6_leftAt cX6_leftAt 6 (some .int), Cond.fieldLink RX6 78 "Tureenlist$Wish" "forMany" "Z", Cond.fieldLink RX6 98 "Tureenlist$Wish" "struck" "Z", Cond.fieldLink RX6 232 "Tureenlist$Wish" "count" "I", Cond.classLink RX6 143 "Tureenlist$Hold", Cond.fieldLink RX6 434 "Tureenlist$Hold" "of" "LTureenlist$Wish;", Cond.sameField "Tureenlist$Hold" "Tureenlist$Deed" "of" "LTureenlist$Wish;", Cond.methodLink RX6 408 Lib.Math.max.name, Cond.static Lib.Math.max.name, Cond.initialized "java/lang/Math", Cond.code Lib.Math.max.name Lib.Math.max.code 2 (some .int), Cond.methodLink RX6 431 yX6_keptOfSeenAt, Cond.instanceMethod yX6_keptOfSeenAt]
def wsX6_hold_r4 : List Cond := [Cond.selects RX6 yX6_keptOfSeenAt yX6_keptOfSeenAt, Cond.code yX6_keptOfSeenAt cX6_keptOfSeenAt 6 (some .int), Cond.fieldLink RX6 19 "Tureenlist" "gifts" "Ljava/util/ArrayList;", Cond.classLink RX6 171 "Tureenlist$Gift", Cond.fieldLink RX6 185 "Tureenlist$Gift" "of" "LTureenlist$Wish;", Cond.sameField "Tureenlist$Gift" "Tureenlist$Deed" "of" "LTureenlist$Wish;", Cond.methodLink RX6 177 yX1_isKept, Cond.instanceMethod yX1_isKept, Cond.selects RX1 yX1_isKept yX1_isKept, Cond.initialized RX1, Cond.code yX1_isKept cX1_isKept 1 (some .boolean), Cond.fieldLink RX1 18 "Tureenlist$Gift" "state" "I", Cond.methodLink RX6 428 ⟨"Tureenlist$Gift", "isSeenAt", "(I)Z"⟩, Cond.sameMethod "Tureenlist$Gift" "Tureenlist$Deed" "isSeenAt" "(I)Z", Cond.selects RX1 ⟨"Tureenlist$Gift", "isSeenAt", "(I)Z"⟩ yX0_isSeenAt, Cond.instanceMethod yX0_isSeenAt, Cond.initialized RX0, Cond.code yX0_isSeenAt cX0_isSeenAt 2 (some .boolean), Cond.fieldLink RX0 24 "Tureenlist$Deed" "seers" "I", Cond.methodLink RX6 435 yX3_standsAt, Cond.instanceMethod yX3_standsAt, Cond.selects RX3 yX3_standsAt yX3_standsAt, Cond.code yX3_standsAt cX3_standsAt 2 (some .boolean), Cond.fieldLink RX3 13 "Tureenlist$Hold" "used" "Z"]
def wsX6_hold_r5 : List Cond := [Cond.fieldLink RX3 17 "Tureenlist$Hold" "of" "LTureenlist$Wish;", Cond.fieldLink RX3 21 "Tureenlist$Wish" "struck" "Z", Cond.fieldLink RX3 26 "Tureenlist$Hold" "since" "I", Cond.sameField "Tureenlist$Hold" "Tureenlist$Deed" "since" "I", Cond.fieldLink RX3 7 "Tureenlist$Hold" "minutes" "I", Cond.methodLink RX6 438 ⟨"Tureenlist$Hold", "isSeenAt", "(I)Z"⟩, Cond.sameMethod "Tureenlist$Hold" "Tureenlist$Deed" "isSeenAt" "(I)Z", Cond.selects RX3 ⟨"Tureenlist$Hold", "isSeenAt", "(I)Z"⟩ yX0_isSeenAt, Cond.methodLink RX6 148 yX3_init, Cond.instanceMethod yX3_init, Cond.code yX3_init cX3_init 6 none, Cond.methodLink RX3 1 yX0_init, Cond.instanceMethod yX0_init, Cond.code yX0_init cX0_init 5 none, Cond.methodLink RX0 1 objectInit, Cond.instanceMethod objectInit, Cond.code objectInit ⟨#[0xb1]⟩ 1 none, Cond.fieldLink RX0 7 "Tureenlist$Deed" "of" "LTureenlist$Wish;", Cond.fieldLink RX0 13 "Tureenlist$Deed" "by" "LTureenlist$Guest;", Cond.fieldLink RX0 17 "Tureenlist$Deed" "till" "I", Cond.fieldLink RX0 21 "Tureenlist$Deed" "since" "I", Cond.methodLink RX6 151 ⟨"Tureenlist$Hold", "showTo", "(I)V"⟩, Cond.sameMethod "Tureenlist$Hold" "Tureenlist$Deed" "showTo" "(I)V", Cond.selects RX3 ⟨"Tureenlist$Hold", "showTo", "(I)V"⟩ yX0_showTo]
def wsX6_hold_r6 : List Cond := [Cond.instanceMethod yX0_showTo, Cond.code yX0_showTo cX0_showTo 2 none, Cond.fieldLink RX0 27 "Tureenlist$Deed" "open" "Z", Cond.methodLink RX6 61 yJx4a65c_add_9ea2d, Cond.instanceMethod yJx4a65c_add_9ea2d, Cond.selects RJx4a65c yJx4a65c_add_9ea2d yJx4a65c_add_9ea2d, Cond.code yJx4a65c_add_9ea2d cJx4a65c_add_9ea2d 2 (some .boolean), Cond.fieldLink RJx4a65c 63 "java/util/ArrayList" "modCount" "I", Cond.sameField "java/util/ArrayList" "java/util/AbstractList" "modCount" "I", Cond.methodLink RJx4a65c 131 yJx4a65c_add_72be8, Cond.instanceMethod yJx4a65c_add_72be8, Cond.selects RJx4a65c yJx4a65c_add_72be8 yJx4a65c_add_72be8, Cond.code yJx4a65c_add_72be8 cJx4a65c_add_72be8 4 none, Cond.methodLink RJx4a65c 129 yJx4a65c_grow_d5877, Cond.instanceMethod yJx4a65c_grow_d5877, Cond.selects RJx4a65c yJx4a65c_grow_d5877 yJx4a65c_grow_d5877, Cond.code yJx4a65c_grow_d5877 cJx4a65c_grow_d5877 1 (some (.array (.object "java/lang/Object"))), Cond.methodLink RJx4a65c 69 yJx4a65c_grow_92f84, Cond.instanceMethod yJx4a65c_grow_92f84, Cond.selects RJx4a65c yJx4a65c_grow_92f84 yJx4a65c_grow_92f84, Cond.code yJx4a65c_grow_92f84 cJx4a65c_grow_92f84 4 (some (.array (.object "java/lang/Object"))), Cond.fieldLink RJx4a65c 39 "java/util/ArrayList" "DEFAULTCAPACITY_EMPTY_ELEMENTDATA" "[Ljava/lang/Object;", Cond.methodLink RJx4a65c 79 Lib.Math.max.name, Cond.classLink RJx4a65c 7 "java/lang/Object"]
def wsX6_hold_r7 : List Cond := [Cond.methodLink RJx4a65c 73 yJ8_newLength_cabcc, Cond.static yJ8_newLength_cabcc, Cond.initialized RJ8, Cond.code yJ8_newLength_cabcc cJ8_newLength_cabcc 4 (some .int), Cond.methodLink RJ8 194 Lib.Math.max.name, Cond.constant RJ8 200 (2147483639), Cond.methodLink RJ8 201 yJ8_hugeLength_7cf53, Cond.static yJ8_hugeLength_7cf53, Cond.code yJ8_hugeLength_7cf53 cJ8_hugeLength_7cf53 3 (some .int), Cond.methodLink RJx4a65c 66 yJ7_copyOf_1904c, Cond.static yJ7_copyOf_1904c, Cond.initialized RJ7, Cond.code yJ7_copyOf_1904c cJ7_copyOf_1904c 2 (some (.array (.object "java/lang/Object"))), Cond.methodLink RJ7 86 ⟨"java/lang/Object", "getClass", "()Ljava/lang/Class;"⟩, Cond.selects "[Ljava/lang/Object;" ⟨"java/lang/Object", "getClass", "()Ljava/lang/Class;"⟩ ⟨"java/lang/Object", "getClass", "()Ljava/lang/Class;"⟩, Cond.instanceMethod ⟨"java/lang/Object", "getClass", "()Ljava/lang/Class;"⟩, Cond.native ⟨"java/lang/Object", "getClass", "()Ljava/lang/Class;"⟩, Cond.methodLink RJ7 300 yJ7_copyOf_6403c, Cond.static yJ7_copyOf_6403c, Cond.code yJ7_copyOf_6403c cJ7_copyOf_6403c 4 (some (.array (.object "java/lang/Object"))), Cond.classLink RJ7 110 "[Ljava/lang/Object;", Cond.classLink RJ7 2 "java/lang/Object", Cond.methodLink RJ7 304 Lib.Math.min.name, Cond.static Lib.Math.min.name]
def wsX6_hold_r8 : List Cond := [Cond.code Lib.Math.min.name Lib.Math.min.code 2 (some .int), Cond.methodLink RJ7 150 arraycopyName, Cond.native arraycopyName, Cond.static arraycopyName, Cond.initialized "java/lang/System"]
def wsX6_hold : List Cond := .code yX6_hold cX6_hold 9 (some .int) :: ((wsX6_hold_r1 ++ (wsX6_hold_r2 ++ (wsX6_hold_r3 ++ (wsX6_hold_r4 ++ (wsX6_hold_r5 ++ (wsX6_hold_r6 ++ (wsX6_hold_r7 ++ wsX6_hold_r8))))))) ++ wsX60 ++ wsX30 ++ wsJx4a65c0 ++ wsX50 ++ wsX10 ++ (vx_atS RX6 33 "java/lang/IllegalArgumentException" ["java/lang/RuntimeException", "java/lang/Exception"]).filter goodWord ++ (vx_atS RX6 55 "java/lang/IllegalStateException" ["java/lang/RuntimeException", "java/lang/Exception"]).filter goodWord ++ (vx_atS RX6 286 "java/lang/IndexOutOfBoundsException" ["java/lang/RuntimeException", "java/lang/Exception"]).filter goodWord)
def wsX6_servingHold_r1 : List Cond := [Cond.fieldLink RX6 232 "Tureenlist$Wish" "count" "I", Cond.fieldLink RX6 22 "Tureenlist" "holds" "Ljava/util/ArrayList;", Cond.classLink RX6 143 "Tureenlist$Hold", Cond.fieldLink RX6 448 "Tureenlist$Hold" "by" "LTureenlist$Guest;", Cond.sameField "Tureenlist$Hold" "Tureenlist$Deed" "by" "LTureenlist$Guest;", Cond.fieldLink RX6 434 "Tureenlist$Hold" "of" "LTureenlist$Wish;", Cond.sameField "Tureenlist$Hold" "Tureenlist$Deed" "of" "LTureenlist$Wish;", Cond.fieldLink RX6 145 "Tureenlist" "minute" "I", Cond.methodLink RX6 431 yX6_keptOfSeenAt, Cond.instanceMethod yX6_keptOfSeenAt, Cond.selects RX6 yX6_keptOfSeenAt yX6_keptOfSeenAt, Cond.initialized RX6, Cond.code yX6_keptOfSeenAt cX6_keptOfSeenAt 6 (some .int), Cond.fieldLink RX6 19 "Tureenlist" "gifts" "Ljava/util/ArrayList;", Cond.classLink RX6 171 "Tureenlist$Gift", Cond.fieldLink RX6 185 "Tureenlist$Gift" "of" "LTureenlist$Wish;", Cond.sameField "Tureenlist$Gift" "Tureenlist$Deed" "of" "LTureenlist$Wish;", Cond.methodLink RX6 47 yJx4a65c_size_8abf5, Cond.instanceMethod yJx4a65c_size_8abf5, Cond.selects RJx4a65c yJx4a65c_size_8abf5 yJx4a65c_size_8abf5, Cond.initialized RJx4a65c, Cond.code yJx4a65c_size_8abf5 cJx4a65c_size_8abf5 1 (some .int), Cond.fieldLink RJx4a65c 48 "java/util/ArrayList" "size" "I", Cond.methodLink RX6 122 yJx4a65c_get_915e3]
def wsX6_servingHold_r2 : List Cond := [Cond.instanceMethod yJx4a65c_get_915e3, Cond.selects RJx4a65c yJx4a65c_get_915e3 yJx4a65c_get_915e3, Cond.code yJx4a65c_get_915e3 cJx4a65c_get_915e3 2 (some (.object "java/lang/Object")), Cond.methodLink RJx4a65c 118 yJ15_checkIndex_7cf53, Cond.static yJ15_checkIndex_7cf53, Cond.initialized RJ15, Cond.code yJ15_checkIndex_7cf53 cJ15_checkIndex_7cf53 2 (some .int), Cond.methodLink RJ15 105 yJ3_checkIndex_8e157, Cond.static yJ3_checkIndex_8e157, Cond.initialized RJ3, Cond.code yJ3_checkIndex_8e157 cJ3_checkIndex_8e157 3 (some .int), Cond.methodLink RJx4a65c 123 yJx4a65c_elementData_915e3, Cond.instanceMethod yJx4a65c_elementData_915e3, Cond.selects RJx4a65c yJx4a65c_elementData_915e3 yJx4a65c_elementData_915e3, Cond.code yJx4a65c_elementData_915e3 cJx4a65c_elementData_915e3 2 (some (.object "java/lang/Object")), Cond.fieldLink RJx4a65c 9 "java/util/ArrayList" "elementData" "[Ljava/lang/Object;", Cond.methodLink RX6 177 yX1_isKept, Cond.instanceMethod yX1_isKept, Cond.selects RX1 yX1_isKept yX1_isKept, Cond.initialized RX1, Cond.code yX1_isKept cX1_isKept 1 (some .boolean), Cond.fieldLink RX1 18 "Tureenlist$Gift" "state" "I", Cond.methodLink RX6 428 ⟨"Tureenlist$Gift", "isSeenAt", "(I)Z"⟩, Cond.sameMethod "Tureenlist$Gift" "Tureenlist$Deed" "isSeenAt" "(I)Z"]
def wsX6_servingHold_r3 : List Cond := [Cond.selects RX1 ⟨"Tureenlist$Gift", "isSeenAt", "(I)Z"⟩ yX0_isSeenAt, Cond.instanceMethod yX0_isSeenAt, Cond.initialized RX0, Cond.code yX0_isSeenAt cX0_isSeenAt 2 (some .boolean), Cond.fieldLink RX0 24 "Tureenlist$Deed" "seers" "I", Cond.methodLink RX6 435 yX3_standsAt, Cond.instanceMethod yX3_standsAt, Cond.selects RX3 yX3_standsAt yX3_standsAt, Cond.initialized RX3, Cond.code yX3_standsAt cX3_standsAt 2 (some .boolean), Cond.fieldLink RX3 13 "Tureenlist$Hold" "used" "Z", Cond.fieldLink RX3 17 "Tureenlist$Hold" "of" "LTureenlist$Wish;", Cond.fieldLink RX3 21 "Tureenlist$Wish" "struck" "Z", Cond.fieldLink RX3 26 "Tureenlist$Hold" "since" "I", Cond.sameField "Tureenlist$Hold" "Tureenlist$Deed" "since" "I", Cond.fieldLink RX3 7 "Tureenlist$Hold" "minutes" "I", Cond.methodLink RX6 438 ⟨"Tureenlist$Hold", "isSeenAt", "(I)Z"⟩, Cond.sameMethod "Tureenlist$Hold" "Tureenlist$Deed" "isSeenAt" "(I)Z", Cond.selects RX3 ⟨"Tureenlist$Hold", "isSeenAt", "(I)Z"⟩ yX0_isSeenAt]
def wsX6_servingHold : List Cond := .code yX6_servingHold cX6_servingHold 6 (some .int) :: ((wsX6_servingHold_r1 ++ (wsX6_servingHold_r2 ++ wsX6_servingHold_r3)) ++ wsX50 ++ wsX60 ++ wsX10 ++ wsX30 ++ wsJx4a65c0)
def wsX6_takePiece_r1 : List Cond := [Cond.classLink RX6 51 "java/lang/IllegalStateException", Cond.initialized "java/lang/IllegalStateException", Cond.fieldLink RX6 22 "Tureenlist" "holds" "Ljava/util/ArrayList;", Cond.classLink RX6 143 "Tureenlist$Hold", Cond.fieldLink RX6 443 "Tureenlist$Hold" "used" "Z", Cond.methodLink RX6 439 yX6_servingHold, Cond.instanceMethod yX6_servingHold, Cond.selects RX6 yX6_servingHold yX6_servingHold, Cond.initialized RX6, Cond.code yX6_servingHold cX6_servingHold 6 (some .int), Cond.fieldLink RX6 232 "Tureenlist$Wish" "count" "I", Cond.fieldLink RX6 448 "Tureenlist$Hold" "by" "LTureenlist$Guest;", Cond.sameField "Tureenlist$Hold" "Tureenlist$Deed" "by" "LTureenlist$Guest;", Cond.fieldLink RX6 434 "Tureenlist$Hold" "of" "LTureenlist$Wish;", Cond.sameField "Tureenlist$Hold" "Tureenlist$Deed" "of" "LTureenlist$Wish;", Cond.fieldLink RX6 145 "Tureenlist" "minute" "I", Cond.methodLink RX6 431 yX6_keptOfSeenAt, Cond.instanceMethod yX6_keptOfSeenAt, Cond.selects RX6 yX6_keptOfSeenAt yX6_keptOfSeenAt, Cond.code yX6_keptOfSeenAt cX6_keptOfSeenAt 6 (some .int), Cond.fieldLink RX6 19 "Tureenlist" "gifts" "Ljava/util/ArrayList;", Cond.classLink RX6 171 "Tureenlist$Gift", Cond.fieldLink RX6 185 "Tureenlist$Gift" "of" "LTureenlist$Wish;", Cond.sameField "Tureenlist$Gift" "Tureenlist$Deed" "of" "LTureenlist$Wish;"]
def wsX6_takePiece_r2 : List Cond := [Cond.methodLink RX6 47 yJx4a65c_size_8abf5, Cond.instanceMethod yJx4a65c_size_8abf5, Cond.selects RJx4a65c yJx4a65c_size_8abf5 yJx4a65c_size_8abf5, Cond.initialized RJx4a65c, Cond.code yJx4a65c_size_8abf5 cJx4a65c_size_8abf5 1 (some .int), Cond.fieldLink RJx4a65c 48 "java/util/ArrayList" "size" "I", Cond.methodLink RX6 122 yJx4a65c_get_915e3, Cond.instanceMethod yJx4a65c_get_915e3, Cond.selects RJx4a65c yJx4a65c_get_915e3 yJx4a65c_get_915e3, Cond.code yJx4a65c_get_915e3 cJx4a65c_get_915e3 2 (some (.object "java/lang/Object")), Cond.methodLink RJx4a65c 118 yJ15_checkIndex_7cf53, Cond.static yJ15_checkIndex_7cf53, Cond.initialized RJ15, Cond.code yJ15_checkIndex_7cf53 cJ15_checkIndex_7cf53 2 (some .int), Cond.methodLink RJ15 105 yJ3_checkIndex_8e157, Cond.static yJ3_checkIndex_8e157, Cond.initialized RJ3, Cond.code yJ3_checkIndex_8e157 cJ3_checkIndex_8e157 3 (some .int), Cond.methodLink RJx4a65c 123 yJx4a65c_elementData_915e3, Cond.instanceMethod yJx4a65c_elementData_915e3, Cond.selects RJx4a65c yJx4a65c_elementData_915e3 yJx4a65c_elementData_915e3, Cond.code yJx4a65c_elementData_915e3 cJx4a65c_elementData_915e3 2 (some (.object "java/lang/Object")), Cond.fieldLink RJx4a65c 9 "java/util/ArrayList" "elementData" "[Ljava/lang/Object;", Cond.methodLink RX6 177 yX1_isKept]
def wsX6_takePiece_r3 : List Cond := [Cond.instanceMethod yX1_isKept, Cond.selects RX1 yX1_isKept yX1_isKept, Cond.initialized RX1, Cond.code yX1_isKept cX1_isKept 1 (some .boolean), Cond.fieldLink RX1 18 "Tureenlist$Gift" "state" "I", Cond.methodLink RX6 428 ⟨"Tureenlist$Gift", "isSeenAt", "(I)Z"⟩, Cond.sameMethod "Tureenlist$Gift" "Tureenlist$Deed" "isSeenAt" "(I)Z", Cond.selects RX1 ⟨"Tureenlist$Gift", "isSeenAt", "(I)Z"⟩ yX0_isSeenAt, Cond.instanceMethod yX0_isSeenAt, Cond.initialized RX0, Cond.code yX0_isSeenAt cX0_isSeenAt 2 (some .boolean), Cond.fieldLink RX0 24 "Tureenlist$Deed" "seers" "I", Cond.methodLink RX6 435 yX3_standsAt, Cond.instanceMethod yX3_standsAt, Cond.selects RX3 yX3_standsAt yX3_standsAt, Cond.initialized RX3, Cond.code yX3_standsAt cX3_standsAt 2 (some .boolean), Cond.fieldLink RX3 13 "Tureenlist$Hold" "used" "Z", Cond.fieldLink RX3 17 "Tureenlist$Hold" "of" "LTureenlist$Wish;", Cond.fieldLink RX3 21 "Tureenlist$Wish" "struck" "Z", Cond.fieldLink RX3 26 "Tureenlist$Hold" "since" "I", Cond.sameField "Tureenlist$Hold" "Tureenlist$Deed" "since" "I", Cond.fieldLink RX3 7 "Tureenlist$Hold" "minutes" "I", Cond.methodLink RX6 438 ⟨"Tureenlist$Hold", "isSeenAt", "(I)Z"⟩]
def wsX6_takePiece_r4 : List Cond := [Cond.sameMethod "Tureenlist$Hold" "Tureenlist$Deed" "isSeenAt" "(I)Z", Cond.selects RX3 ⟨"Tureenlist$Hold", "isSeenAt", "(I)Z"⟩ yX0_isSeenAt, Cond.methodLink RX6 137 yX6_leftAt, Cond.instanceMethod yX6_leftAt, Cond.selects RX6 yX6_leftAt yX6_leftAt, Cond.code yX6_leftAt cX6_leftAt 6 (some .int), Cond.fieldLink RX6 78 "Tureenlist$Wish" "forMany" "Z", Cond.fieldLink RX6 98 "Tureenlist$Wish" "struck" "Z", Cond.methodLink RX6 408 Lib.Math.max.name, Cond.static Lib.Math.max.name, Cond.initialized "java/lang/Math", Cond.code Lib.Math.max.name Lib.Math.max.code 2 (some .int)]
def wsX6_takePiece : List Cond := .code yX6_takePiece cX6_takePiece 5 none :: ((wsX6_takePiece_r1 ++ (wsX6_takePiece_r2 ++ (wsX6_takePiece_r3 ++ wsX6_takePiece_r4))) ++ wsX60 ++ wsX30 ++ wsX50 ++ wsX10 ++ wsJx4a65c0 ++ (vx_atS RX6 55 "java/lang/IllegalStateException" ["java/lang/RuntimeException", "java/lang/Exception"]).filter goodWord)
def wsX6_pay : List Cond := .code yX6_pay cX6_pay 3 none :: ([.fieldLink RX6 158 "Tureenlist$Guest" "purse" "I", .fieldLink RX6 303 "Tureenlist" "paidEver" "I"] ++ wsX20 ++ wsX60)
def wsX6_buy_r1 : List Cond := [Cond.classLink RX6 51 "java/lang/IllegalStateException", Cond.initialized "java/lang/IllegalStateException", Cond.fieldLink RX6 78 "Tureenlist$Wish" "forMany" "Z", Cond.fieldLink RX6 98 "Tureenlist$Wish" "struck" "Z", Cond.fieldLink RX6 19 "Tureenlist" "gifts" "Ljava/util/ArrayList;", Cond.fieldLink RX6 158 "Tureenlist$Guest" "purse" "I", Cond.fieldLink RX6 88 "Tureenlist$Wish" "cost" "I", Cond.classLink RX6 171 RX1, Cond.instantiable RX1 9, Cond.initialized RX1, Cond.fieldLink RX6 145 "Tureenlist" "minute" "I", Cond.fieldLink RX6 25 "Tureenlist" "joined" "I", Cond.methodLink RX6 101 yX6_checkTill, Cond.static yX6_checkTill, Cond.initialized RX6, Cond.code yX6_checkTill cX6_checkTill 1 none, Cond.classLink RX6 284 "java/lang/IndexOutOfBoundsException", Cond.initialized "java/lang/IndexOutOfBoundsException", Cond.methodLink RX6 129 yX6_guestNumbered, Cond.instanceMethod yX6_guestNumbered, Cond.selects RX6 yX6_guestNumbered yX6_guestNumbered, Cond.code yX6_guestNumbered cX6_guestNumbered 2 (some (.object "Tureenlist$Guest")), Cond.fieldLink RX6 16 "Tureenlist" "guests" "Ljava/util/ArrayList;", Cond.classLink RX6 69 "Tureenlist$Guest"]
def wsX6_buy_r2 : List Cond := [Cond.methodLink RX6 47 yJx4a65c_size_8abf5, Cond.instanceMethod yJx4a65c_size_8abf5, Cond.selects RJx4a65c yJx4a65c_size_8abf5 yJx4a65c_size_8abf5, Cond.initialized RJx4a65c, Cond.code yJx4a65c_size_8abf5 cJx4a65c_size_8abf5 1 (some .int), Cond.fieldLink RJx4a65c 48 "java/util/ArrayList" "size" "I", Cond.methodLink RX6 122 yJx4a65c_get_915e3, Cond.instanceMethod yJx4a65c_get_915e3, Cond.selects RJx4a65c yJx4a65c_get_915e3 yJx4a65c_get_915e3, Cond.code yJx4a65c_get_915e3 cJx4a65c_get_915e3 2 (some (.object "java/lang/Object")), Cond.methodLink RJx4a65c 118 yJ15_checkIndex_7cf53, Cond.static yJ15_checkIndex_7cf53, Cond.initialized RJ15, Cond.code yJ15_checkIndex_7cf53 cJ15_checkIndex_7cf53 2 (some .int), Cond.methodLink RJ15 105 yJ3_checkIndex_8e157, Cond.static yJ3_checkIndex_8e157, Cond.initialized RJ3, Cond.code yJ3_checkIndex_8e157 cJ3_checkIndex_8e157 3 (some .int), Cond.methodLink RJx4a65c 123 yJx4a65c_elementData_915e3, Cond.instanceMethod yJx4a65c_elementData_915e3, Cond.selects RJx4a65c yJx4a65c_elementData_915e3 yJx4a65c_elementData_915e3, Cond.code yJx4a65c_elementData_915e3 cJx4a65c_elementData_915e3 2 (some (.object "java/lang/Object")), Cond.fieldLink RJx4a65c 9 "java/util/ArrayList" "elementData" "[Ljava/lang/Object;", Cond.methodLink RX6 74 yX6_wishNumbered]
def wsX6_buy_r3 : List Cond := [Cond.instanceMethod yX6_wishNumbered, Cond.selects RX6 yX6_wishNumbered yX6_wishNumbered, Cond.code yX6_wishNumbered cX6_wishNumbered 2 (some (.object "Tureenlist$Wish")), Cond.fieldLink RX6 12 "Tureenlist" "wishes" "Ljava/util/ArrayList;", Cond.classLink RX6 56 "Tureenlist$Wish", Cond.methodLink RX6 44 yX6_refuseIfCalledOff, Cond.instanceMethod yX6_refuseIfCalledOff, Cond.selects RX6 yX6_refuseIfCalledOff yX6_refuseIfCalledOff, Cond.code yX6_refuseIfCalledOff cX6_refuseIfCalledOff 1 none, Cond.fieldLink RX6 229 "Tureenlist" "calledOff" "Z", Cond.methodLink RX6 163 yX6_takePiece, Cond.instanceMethod yX6_takePiece, Cond.selects RX6 yX6_takePiece yX6_takePiece, Cond.code yX6_takePiece cX6_takePiece 5 none, Cond.fieldLink RX6 22 "Tureenlist" "holds" "Ljava/util/ArrayList;", Cond.classLink RX6 143 "Tureenlist$Hold", Cond.fieldLink RX6 443 "Tureenlist$Hold" "used" "Z", Cond.methodLink RX6 439 yX6_servingHold, Cond.instanceMethod yX6_servingHold, Cond.selects RX6 yX6_servingHold yX6_servingHold, Cond.code yX6_servingHold cX6_servingHold 6 (some .int), Cond.fieldLink RX6 232 "Tureenlist$Wish" "count" "I", Cond.fieldLink RX6 448 "Tureenlist$Hold" "by" "LTureenlist$Guest;", Cond.sameField "Tureenlist$Hold" "Tureenlist$Deed" "by" "LTureenlist$Guest;"]
def wsX6_buy_r4 : List Cond := [Cond.fieldLink RX6 434 "Tureenlist$Hold" "of" "LTureenlist$Wish;", Cond.sameField "Tureenlist$Hold" "Tureenlist$Deed" "of" "LTureenlist$Wish;", Cond.methodLink RX6 431 yX6_keptOfSeenAt, Cond.instanceMethod yX6_keptOfSeenAt, Cond.selects RX6 yX6_keptOfSeenAt yX6_keptOfSeenAt, Cond.code yX6_keptOfSeenAt cX6_keptOfSeenAt 6 (some .int), Cond.classLink RX6 171 "Tureenlist$Gift", Cond.fieldLink RX6 185 "Tureenlist$Gift" "of" "LTureenlist$Wish;", Cond.sameField "Tureenlist$Gift" "Tureenlist$Deed" "of" "LTureenlist$Wish;", Cond.methodLink RX6 177 yX1_isKept, Cond.instanceMethod yX1_isKept, Cond.selects RX1 yX1_isKept yX1_isKept, Cond.code yX1_isKept cX1_isKept 1 (some .boolean), Cond.fieldLink RX1 18 "Tureenlist$Gift" "state" "I", Cond.methodLink RX6 428 ⟨"Tureenlist$Gift", "isSeenAt", "(I)Z"⟩, Cond.sameMethod "Tureenlist$Gift" "Tureenlist$Deed" "isSeenAt" "(I)Z", Cond.selects RX1 ⟨"Tureenlist$Gift", "isSeenAt", "(I)Z"⟩ yX0_isSeenAt, Cond.instanceMethod yX0_isSeenAt, Cond.initialized RX0, Cond.code yX0_isSeenAt cX0_isSeenAt 2 (some .boolean), Cond.fieldLink RX0 24 "Tureenlist$Deed" "seers" "I", Cond.methodLink RX6 435 yX3_standsAt, Cond.instanceMethod yX3_standsAt, Cond.selects RX3 yX3_standsAt yX3_standsAt]
def wsX6_buy_r5 : List Cond := [Cond.initialized RX3, Cond.code yX3_standsAt cX3_standsAt 2 (some .boolean), Cond.fieldLink RX3 13 "Tureenlist$Hold" "used" "Z", Cond.fieldLink RX3 17 "Tureenlist$Hold" "of" "LTureenlist$Wish;", Cond.fieldLink RX3 21 "Tureenlist$Wish" "struck" "Z", Cond.fieldLink RX3 26 "Tureenlist$Hold" "since" "I", Cond.sameField "Tureenlist$Hold" "Tureenlist$Deed" "since" "I", Cond.fieldLink RX3 7 "Tureenlist$Hold" "minutes" "I", Cond.methodLink RX6 438 ⟨"Tureenlist$Hold", "isSeenAt", "(I)Z"⟩, Cond.sameMethod "Tureenlist$Hold" "Tureenlist$Deed" "isSeenAt" "(I)Z", Cond.selects RX3 ⟨"Tureenlist$Hold", "isSeenAt", "(I)Z"⟩ yX0_isSeenAt, Cond.methodLink RX6 137 yX6_leftAt, Cond.instanceMethod yX6_leftAt, Cond.selects RX6 yX6_leftAt yX6_leftAt, Cond.code yX6_leftAt cX6_leftAt 6 (some .int), Cond.methodLink RX6 408 Lib.Math.max.name, Cond.static Lib.Math.max.name, Cond.initialized "java/lang/Math", Cond.code Lib.Math.max.name Lib.Math.max.code 2 (some .int), Cond.methodLink RX6 167 yX6_pay, Cond.instanceMethod yX6_pay, Cond.selects RX6 yX6_pay yX6_pay, Cond.code yX6_pay cX6_pay 3 none, Cond.fieldLink RX6 303 "Tureenlist" "paidEver" "I"]
def wsX6_buy_r6 : List Cond := [Cond.methodLink RX6 173 yX1_init, Cond.instanceMethod yX1_init, Cond.code yX1_init cX1_init 7 none, Cond.fieldLink RX1 9 "Tureenlist$Gift" "number" "I", Cond.fieldLink RX1 15 "Tureenlist$Gift" "paid" "I", Cond.methodLink RX1 3 yX0_init, Cond.instanceMethod yX0_init, Cond.code yX0_init cX0_init 5 none, Cond.methodLink RX0 1 objectInit, Cond.instanceMethod objectInit, Cond.code objectInit ⟨#[0xb1]⟩ 1 none, Cond.fieldLink RX0 7 "Tureenlist$Deed" "of" "LTureenlist$Wish;", Cond.fieldLink RX0 13 "Tureenlist$Deed" "by" "LTureenlist$Guest;", Cond.fieldLink RX0 17 "Tureenlist$Deed" "till" "I", Cond.fieldLink RX0 21 "Tureenlist$Deed" "since" "I", Cond.methodLink RX6 176 ⟨"Tureenlist$Gift", "showTo", "(I)V"⟩, Cond.sameMethod "Tureenlist$Gift" "Tureenlist$Deed" "showTo" "(I)V", Cond.selects RX1 ⟨"Tureenlist$Gift", "showTo", "(I)V"⟩ yX0_showTo, Cond.instanceMethod yX0_showTo, Cond.code yX0_showTo cX0_showTo 2 none, Cond.fieldLink RX0 27 "Tureenlist$Deed" "open" "Z", Cond.methodLink RX6 61 yJx4a65c_add_9ea2d, Cond.instanceMethod yJx4a65c_add_9ea2d, Cond.selects RJx4a65c yJx4a65c_add_9ea2d yJx4a65c_add_9ea2d]
def wsX6_buy_r7 : List Cond := [Cond.code yJx4a65c_add_9ea2d cJx4a65c_add_9ea2d 2 (some .boolean), Cond.fieldLink RJx4a65c 63 "java/util/ArrayList" "modCount" "I", Cond.sameField "java/util/ArrayList" "java/util/AbstractList" "modCount" "I", Cond.methodLink RJx4a65c 131 yJx4a65c_add_72be8, Cond.instanceMethod yJx4a65c_add_72be8, Cond.selects RJx4a65c yJx4a65c_add_72be8 yJx4a65c_add_72be8, Cond.code yJx4a65c_add_72be8 cJx4a65c_add_72be8 4 none, Cond.methodLink RJx4a65c 129 yJx4a65c_grow_d5877, Cond.instanceMethod yJx4a65c_grow_d5877, Cond.selects RJx4a65c yJx4a65c_grow_d5877 yJx4a65c_grow_d5877, Cond.code yJx4a65c_grow_d5877 cJx4a65c_grow_d5877 1 (some (.array (.object "java/lang/Object"))), Cond.methodLink RJx4a65c 69 yJx4a65c_grow_92f84, Cond.instanceMethod yJx4a65c_grow_92f84, Cond.selects RJx4a65c yJx4a65c_grow_92f84 yJx4a65c_grow_92f84, Cond.code yJx4a65c_grow_92f84 cJx4a65c_grow_92f84 4 (some (.array (.object "java/lang/Object"))), Cond.fieldLink RJx4a65c 39 "java/util/ArrayList" "DEFAULTCAPACITY_EMPTY_ELEMENTDATA" "[Ljava/lang/Object;", Cond.methodLink RJx4a65c 79 Lib.Math.max.name, Cond.classLink RJx4a65c 7 "java/lang/Object", Cond.methodLink RJx4a65c 73 yJ8_newLength_cabcc, Cond.static yJ8_newLength_cabcc, Cond.initialized RJ8, Cond.code yJ8_newLength_cabcc cJ8_newLength_cabcc 4 (some .int), Cond.methodLink RJ8 194 Lib.Math.max.name, Cond.constant RJ8 200 (2147483639)]
def wsX6_buy_r8 : List Cond := [Cond.methodLink RJ8 201 yJ8_hugeLength_7cf53, Cond.static yJ8_hugeLength_7cf53, Cond.code yJ8_hugeLength_7cf53 cJ8_hugeLength_7cf53 3 (some .int), Cond.methodLink RJx4a65c 66 yJ7_copyOf_1904c, Cond.static yJ7_copyOf_1904c, Cond.initialized RJ7, Cond.code yJ7_copyOf_1904c cJ7_copyOf_1904c 2 (some (.array (.object "java/lang/Object"))), Cond.methodLink RJ7 86 ⟨"java/lang/Object", "getClass", "()Ljava/lang/Class;"⟩, Cond.selects "[Ljava/lang/Object;" ⟨"java/lang/Object", "getClass", "()Ljava/lang/Class;"⟩ ⟨"java/lang/Object", "getClass", "()Ljava/lang/Class;"⟩, Cond.instanceMethod ⟨"java/lang/Object", "getClass", "()Ljava/lang/Class;"⟩, Cond.native ⟨"java/lang/Object", "getClass", "()Ljava/lang/Class;"⟩, Cond.methodLink RJ7 300 yJ7_copyOf_6403c, Cond.static yJ7_copyOf_6403c, Cond.code yJ7_copyOf_6403c cJ7_copyOf_6403c 4 (some (.array (.object "java/lang/Object"))), Cond.classLink RJ7 110 "[Ljava/lang/Object;", Cond.classLink RJ7 2 "java/lang/Object", Cond.methodLink RJ7 304 Lib.Math.min.name, Cond.static Lib.Math.min.name, Cond.code Lib.Math.min.name Lib.Math.min.code 2 (some .int), Cond.methodLink RJ7 150 arraycopyName, Cond.native arraycopyName, Cond.static arraycopyName, Cond.initialized "java/lang/System"]
def wsX6_buy : List Cond := .code yX6_buy cX6_buy 8 (some .int) :: ((wsX6_buy_r1 ++ (wsX6_buy_r2 ++ (wsX6_buy_r3 ++ (wsX6_buy_r4 ++ (wsX6_buy_r5 ++ (wsX6_buy_r6 ++ (wsX6_buy_r7 ++ wsX6_buy_r8))))))) ++ wsX50 ++ wsX60 ++ wsX20 ++ wsX10 ++ wsJx4a65c0 ++ wsX30 ++ (vx_atS RX6 55 "java/lang/IllegalStateException" ["java/lang/RuntimeException", "java/lang/Exception"]).filter goodWord ++ (vx_atS RX6 286 "java/lang/IndexOutOfBoundsException" ["java/lang/RuntimeException", "java/lang/Exception"]).filter goodWord)
def wsX6_giveBack_r1 : List Cond := [Cond.classLink RX6 51 "java/lang/IllegalStateException", Cond.initialized "java/lang/IllegalStateException", Cond.fieldLink RX6 19 "Tureenlist" "gifts" "Ljava/util/ArrayList;", Cond.classLink RX6 171 "Tureenlist$Gift", Cond.fieldLink RX6 181 "Tureenlist$Gift" "by" "LTureenlist$Guest;", Cond.sameField "Tureenlist$Gift" "Tureenlist$Deed" "by" "LTureenlist$Guest;", Cond.fieldLink RX6 185 "Tureenlist$Gift" "of" "LTureenlist$Wish;", Cond.sameField "Tureenlist$Gift" "Tureenlist$Deed" "of" "LTureenlist$Wish;", Cond.fieldLink RX6 145 "Tureenlist" "minute" "I", Cond.fieldLink RX6 189 "Tureenlist$Gift" "since" "I", Cond.sameField "Tureenlist$Gift" "Tureenlist$Deed" "since" "I", Cond.methodLink RX6 129 yX6_guestNumbered, Cond.instanceMethod yX6_guestNumbered, Cond.selects RX6 yX6_guestNumbered yX6_guestNumbered, Cond.initialized RX6, Cond.code yX6_guestNumbered cX6_guestNumbered 2 (some (.object "Tureenlist$Guest")), Cond.classLink RX6 284 "java/lang/IndexOutOfBoundsException", Cond.initialized "java/lang/IndexOutOfBoundsException", Cond.fieldLink RX6 16 "Tureenlist" "guests" "Ljava/util/ArrayList;", Cond.classLink RX6 69 "Tureenlist$Guest", Cond.methodLink RX6 47 yJx4a65c_size_8abf5, Cond.instanceMethod yJx4a65c_size_8abf5, Cond.selects RJx4a65c yJx4a65c_size_8abf5 yJx4a65c_size_8abf5, Cond.initialized RJx4a65c]
def wsX6_giveBack_r2 : List Cond := [Cond.code yJx4a65c_size_8abf5 cJx4a65c_size_8abf5 1 (some .int), Cond.fieldLink RJx4a65c 48 "java/util/ArrayList" "size" "I", Cond.methodLink RX6 122 yJx4a65c_get_915e3, Cond.instanceMethod yJx4a65c_get_915e3, Cond.selects RJx4a65c yJx4a65c_get_915e3 yJx4a65c_get_915e3, Cond.code yJx4a65c_get_915e3 cJx4a65c_get_915e3 2 (some (.object "java/lang/Object")), Cond.methodLink RJx4a65c 118 yJ15_checkIndex_7cf53, Cond.static yJ15_checkIndex_7cf53, Cond.initialized RJ15, Cond.code yJ15_checkIndex_7cf53 cJ15_checkIndex_7cf53 2 (some .int), Cond.methodLink RJ15 105 yJ3_checkIndex_8e157, Cond.static yJ3_checkIndex_8e157, Cond.initialized RJ3, Cond.code yJ3_checkIndex_8e157 cJ3_checkIndex_8e157 3 (some .int), Cond.methodLink RJx4a65c 123 yJx4a65c_elementData_915e3, Cond.instanceMethod yJx4a65c_elementData_915e3, Cond.selects RJx4a65c yJx4a65c_elementData_915e3 yJx4a65c_elementData_915e3, Cond.code yJx4a65c_elementData_915e3 cJx4a65c_elementData_915e3 2 (some (.object "java/lang/Object")), Cond.fieldLink RJx4a65c 9 "java/util/ArrayList" "elementData" "[Ljava/lang/Object;", Cond.methodLink RX6 74 yX6_wishNumbered, Cond.instanceMethod yX6_wishNumbered, Cond.selects RX6 yX6_wishNumbered yX6_wishNumbered, Cond.code yX6_wishNumbered cX6_wishNumbered 2 (some (.object "Tureenlist$Wish")), Cond.fieldLink RX6 12 "Tureenlist" "wishes" "Ljava/util/ArrayList;"]
def wsX6_giveBack_r3 : List Cond := [Cond.classLink RX6 56 "Tureenlist$Wish", Cond.methodLink RX6 44 yX6_refuseIfCalledOff, Cond.instanceMethod yX6_refuseIfCalledOff, Cond.selects RX6 yX6_refuseIfCalledOff yX6_refuseIfCalledOff, Cond.code yX6_refuseIfCalledOff cX6_refuseIfCalledOff 1 none, Cond.fieldLink RX6 229 "Tureenlist" "calledOff" "Z", Cond.methodLink RX6 177 yX1_isKept, Cond.instanceMethod yX1_isKept, Cond.selects RX1 yX1_isKept yX1_isKept, Cond.initialized RX1, Cond.code yX1_isKept cX1_isKept 1 (some .boolean), Cond.fieldLink RX1 18 "Tureenlist$Gift" "state" "I", Cond.methodLink RX6 194 yX6_endGift, Cond.instanceMethod yX6_endGift, Cond.selects RX6 yX6_endGift yX6_endGift, Cond.code yX6_endGift cX6_endGift 3 (some .int), Cond.fieldLink RX6 297 "Tureenlist$Gift" "state" "I", Cond.fieldLink RX6 294 "Tureenlist$Gift" "paid" "I", Cond.methodLink RX6 405 yX6_payBack, Cond.instanceMethod yX6_payBack, Cond.selects RX6 yX6_payBack yX6_payBack, Cond.code yX6_payBack cX6_payBack 3 none, Cond.fieldLink RX6 158 "Tureenlist$Guest" "purse" "I", Cond.fieldLink RX6 306 "Tureenlist" "wentBackEver" "I"]
def wsX6_giveBack : List Cond := .code yX6_giveBack cX6_giveBack 7 (some .int) :: ((wsX6_giveBack_r1 ++ (wsX6_giveBack_r2 ++ wsX6_giveBack_r3)) ++ wsX60 ++ wsX10 ++ wsX30 ++ wsJx4a65c0 ++ wsX20 ++ (vx_atS RX6 55 "java/lang/IllegalStateException" ["java/lang/RuntimeException", "java/lang/Exception"]).filter goodWord ++ (vx_atS RX6 286 "java/lang/IndexOutOfBoundsException" ["java/lang/RuntimeException", "java/lang/Exception"]).filter goodWord)
def wsX6_pledge_r1 : List Cond := [Cond.classLink RX6 29 "java/lang/IllegalArgumentException", Cond.initialized "java/lang/IllegalArgumentException", Cond.classLink RX6 51 "java/lang/IllegalStateException", Cond.initialized "java/lang/IllegalStateException", Cond.fieldLink RX6 78 "Tureenlist$Wish" "forMany" "Z", Cond.fieldLink RX6 158 "Tureenlist$Guest" "purse" "I", Cond.methodLink RX6 209 Lib.Math.min.name, Cond.static Lib.Math.min.name, Cond.initialized "java/lang/Math", Cond.code Lib.Math.min.name Lib.Math.min.code 2 (some .int), Cond.fieldLink RX6 215 "Tureenlist$Wish" "pledges" "Ljava/util/ArrayList;", Cond.classLink RX6 218 RX4, Cond.instantiable RX4 2, Cond.initialized RX4, Cond.methodLink RX6 129 yX6_guestNumbered, Cond.instanceMethod yX6_guestNumbered, Cond.selects RX6 yX6_guestNumbered yX6_guestNumbered, Cond.initialized RX6, Cond.code yX6_guestNumbered cX6_guestNumbered 2 (some (.object "Tureenlist$Guest")), Cond.classLink RX6 284 "java/lang/IndexOutOfBoundsException", Cond.initialized "java/lang/IndexOutOfBoundsException", Cond.fieldLink RX6 16 "Tureenlist" "guests" "Ljava/util/ArrayList;", Cond.classLink RX6 69 "Tureenlist$Guest", Cond.methodLink RX6 47 yJx4a65c_size_8abf5]
def wsX6_pledge_r2 : List Cond := [Cond.instanceMethod yJx4a65c_size_8abf5, Cond.selects RJx4a65c yJx4a65c_size_8abf5 yJx4a65c_size_8abf5, Cond.initialized RJx4a65c, Cond.code yJx4a65c_size_8abf5 cJx4a65c_size_8abf5 1 (some .int), Cond.fieldLink RJx4a65c 48 "java/util/ArrayList" "size" "I", Cond.methodLink RX6 122 yJx4a65c_get_915e3, Cond.instanceMethod yJx4a65c_get_915e3, Cond.selects RJx4a65c yJx4a65c_get_915e3 yJx4a65c_get_915e3, Cond.code yJx4a65c_get_915e3 cJx4a65c_get_915e3 2 (some (.object "java/lang/Object")), Cond.methodLink RJx4a65c 118 yJ15_checkIndex_7cf53, Cond.static yJ15_checkIndex_7cf53, Cond.initialized RJ15, Cond.code yJ15_checkIndex_7cf53 cJ15_checkIndex_7cf53 2 (some .int), Cond.methodLink RJ15 105 yJ3_checkIndex_8e157, Cond.static yJ3_checkIndex_8e157, Cond.initialized RJ3, Cond.code yJ3_checkIndex_8e157 cJ3_checkIndex_8e157 3 (some .int), Cond.methodLink RJx4a65c 123 yJx4a65c_elementData_915e3, Cond.instanceMethod yJx4a65c_elementData_915e3, Cond.selects RJx4a65c yJx4a65c_elementData_915e3 yJx4a65c_elementData_915e3, Cond.code yJx4a65c_elementData_915e3 cJx4a65c_elementData_915e3 2 (some (.object "java/lang/Object")), Cond.fieldLink RJx4a65c 9 "java/util/ArrayList" "elementData" "[Ljava/lang/Object;", Cond.methodLink RX6 74 yX6_wishNumbered, Cond.instanceMethod yX6_wishNumbered]
def wsX6_pledge_r3 : List Cond := [Cond.selects RX6 yX6_wishNumbered yX6_wishNumbered, Cond.code yX6_wishNumbered cX6_wishNumbered 2 (some (.object "Tureenlist$Wish")), Cond.fieldLink RX6 12 "Tureenlist" "wishes" "Ljava/util/ArrayList;", Cond.classLink RX6 56 "Tureenlist$Wish", Cond.methodLink RX6 84 yX6_refuseIfSettled, Cond.instanceMethod yX6_refuseIfSettled, Cond.selects RX6 yX6_refuseIfSettled yX6_refuseIfSettled, Cond.code yX6_refuseIfSettled cX6_refuseIfSettled 2 none, Cond.fieldLink RX6 98 "Tureenlist$Wish" "struck" "Z", Cond.methodLink RX6 44 yX6_refuseIfCalledOff, Cond.instanceMethod yX6_refuseIfCalledOff, Cond.selects RX6 yX6_refuseIfCalledOff yX6_refuseIfCalledOff, Cond.code yX6_refuseIfCalledOff cX6_refuseIfCalledOff 1 none, Cond.fieldLink RX6 229 "Tureenlist" "calledOff" "Z", Cond.methodLink RX6 242 yX5_isOrdered, Cond.instanceMethod yX5_isOrdered, Cond.selects RX5 yX5_isOrdered yX5_isOrdered, Cond.initialized RX5, Cond.code yX5_isOrdered cX5_isOrdered 1 (some .boolean), Cond.fieldLink RX5 19 "Tureenlist$Wish" "forMany" "Z", Cond.methodLink RX5 56 yX5_lacking, Cond.instanceMethod yX5_lacking, Cond.selects RX5 yX5_lacking yX5_lacking, Cond.code yX5_lacking cX5_lacking 1 (some .int)]
def wsX6_pledge_r4 : List Cond := [Cond.fieldLink RX5 16 "Tureenlist$Wish" "cost" "I", Cond.methodLink RX5 50 Lib.Math.max.name, Cond.static Lib.Math.max.name, Cond.code Lib.Math.max.name Lib.Math.max.code 2 (some .int), Cond.methodLink RX5 47 yX5_pledged, Cond.instanceMethod yX5_pledged, Cond.selects RX5 yX5_pledged yX5_pledged, Cond.code yX5_pledged cX5_pledged 3 (some .int), Cond.fieldLink RX5 26 "Tureenlist$Wish" "pledges" "Ljava/util/ArrayList;", Cond.classLink RX5 38 "Tureenlist$Pledge", Cond.fieldLink RX5 40 "Tureenlist$Pledge" "pence" "I", Cond.methodLink RX5 30 yJx4a65c_size_8abf5, Cond.methodLink RX5 34 yJx4a65c_get_915e3, Cond.methodLink RX6 206 yX5_lacking, Cond.methodLink RX6 167 yX6_pay, Cond.instanceMethod yX6_pay, Cond.selects RX6 yX6_pay yX6_pay, Cond.code yX6_pay cX6_pay 3 none, Cond.fieldLink RX6 303 "Tureenlist" "paidEver" "I", Cond.methodLink RX6 220 yX4_init, Cond.instanceMethod yX4_init, Cond.code yX4_init cX4_init 3 none, Cond.methodLink RX4 1 objectInit, Cond.instanceMethod objectInit]
def wsX6_pledge_r5 : List Cond := [Cond.code objectInit ⟨#[0xb1]⟩ 1 none, Cond.fieldLink RX4 7 "Tureenlist$Pledge" "by" "LTureenlist$Guest;", Cond.fieldLink RX4 13 "Tureenlist$Pledge" "pence" "I", Cond.methodLink RX6 61 yJx4a65c_add_9ea2d, Cond.instanceMethod yJx4a65c_add_9ea2d, Cond.selects RJx4a65c yJx4a65c_add_9ea2d yJx4a65c_add_9ea2d, Cond.code yJx4a65c_add_9ea2d cJx4a65c_add_9ea2d 2 (some .boolean), Cond.fieldLink RJx4a65c 63 "java/util/ArrayList" "modCount" "I", Cond.sameField "java/util/ArrayList" "java/util/AbstractList" "modCount" "I", Cond.methodLink RJx4a65c 131 yJx4a65c_add_72be8, Cond.instanceMethod yJx4a65c_add_72be8, Cond.selects RJx4a65c yJx4a65c_add_72be8 yJx4a65c_add_72be8, Cond.code yJx4a65c_add_72be8 cJx4a65c_add_72be8 4 none, Cond.methodLink RJx4a65c 129 yJx4a65c_grow_d5877, Cond.instanceMethod yJx4a65c_grow_d5877, Cond.selects RJx4a65c yJx4a65c_grow_d5877 yJx4a65c_grow_d5877, Cond.code yJx4a65c_grow_d5877 cJx4a65c_grow_d5877 1 (some (.array (.object "java/lang/Object"))), Cond.methodLink RJx4a65c 69 yJx4a65c_grow_92f84, Cond.instanceMethod yJx4a65c_grow_92f84, Cond.selects RJx4a65c yJx4a65c_grow_92f84 yJx4a65c_grow_92f84, Cond.code yJx4a65c_grow_92f84 cJx4a65c_grow_92f84 4 (some (.array (.object "java/lang/Object"))), Cond.fieldLink RJx4a65c 39 "java/util/ArrayList" "DEFAULTCAPACITY_EMPTY_ELEMENTDATA" "[Ljava/lang/Object;", Cond.methodLink RJx4a65c 79 Lib.Math.max.name, Cond.classLink RJx4a65c 7 "java/lang/Object"]
def wsX6_pledge_r6 : List Cond := [Cond.methodLink RJx4a65c 73 yJ8_newLength_cabcc, Cond.static yJ8_newLength_cabcc, Cond.initialized RJ8, Cond.code yJ8_newLength_cabcc cJ8_newLength_cabcc 4 (some .int), Cond.methodLink RJ8 194 Lib.Math.max.name, Cond.constant RJ8 200 (2147483639), Cond.methodLink RJ8 201 yJ8_hugeLength_7cf53, Cond.static yJ8_hugeLength_7cf53, Cond.code yJ8_hugeLength_7cf53 cJ8_hugeLength_7cf53 3 (some .int), Cond.methodLink RJx4a65c 66 yJ7_copyOf_1904c, Cond.static yJ7_copyOf_1904c, Cond.initialized RJ7, Cond.code yJ7_copyOf_1904c cJ7_copyOf_1904c 2 (some (.array (.object "java/lang/Object"))), Cond.methodLink RJ7 86 ⟨"java/lang/Object", "getClass", "()Ljava/lang/Class;"⟩, Cond.selects "[Ljava/lang/Object;" ⟨"java/lang/Object", "getClass", "()Ljava/lang/Class;"⟩ ⟨"java/lang/Object", "getClass", "()Ljava/lang/Class;"⟩, Cond.instanceMethod ⟨"java/lang/Object", "getClass", "()Ljava/lang/Class;"⟩, Cond.native ⟨"java/lang/Object", "getClass", "()Ljava/lang/Class;"⟩, Cond.methodLink RJ7 300 yJ7_copyOf_6403c, Cond.static yJ7_copyOf_6403c, Cond.code yJ7_copyOf_6403c cJ7_copyOf_6403c 4 (some (.array (.object "java/lang/Object"))), Cond.classLink RJ7 110 "[Ljava/lang/Object;", Cond.classLink RJ7 2 "java/lang/Object", Cond.methodLink RJ7 304 Lib.Math.min.name, Cond.methodLink RJ7 150 arraycopyName]
def wsX6_pledge_r7 : List Cond := [Cond.native arraycopyName, Cond.static arraycopyName, Cond.initialized "java/lang/System"]
def wsX6_pledge : List Cond := .code yX6_pledge cX6_pledge 7 (some .int) :: ((wsX6_pledge_r1 ++ (wsX6_pledge_r2 ++ (wsX6_pledge_r3 ++ (wsX6_pledge_r4 ++ (wsX6_pledge_r5 ++ (wsX6_pledge_r6 ++ wsX6_pledge_r7)))))) ++ wsX50 ++ wsX20 ++ wsX40 ++ wsX60 ++ wsJx4a65c0 ++ (vx_atS RX6 33 "java/lang/IllegalArgumentException" ["java/lang/RuntimeException", "java/lang/Exception"]).filter goodWord ++ (vx_atS RX6 55 "java/lang/IllegalStateException" ["java/lang/RuntimeException", "java/lang/Exception"]).filter goodWord ++ (vx_atS RX6 286 "java/lang/IndexOutOfBoundsException" ["java/lang/RuntimeException", "java/lang/Exception"]).filter goodWord)
def wsX6_oneIf : List Cond := .code yX6_oneIf cX6_oneIf 1 (some .int) :: ([])
def wsX6_holdsStanding_r1 : List Cond := [Cond.fieldLink RX6 22 "Tureenlist" "holds" "Ljava/util/ArrayList;", Cond.classLink RX6 143 "Tureenlist$Hold", Cond.fieldLink RX6 145 "Tureenlist" "minute" "I", Cond.methodLink RX6 47 yJx4a65c_size_8abf5, Cond.instanceMethod yJx4a65c_size_8abf5, Cond.selects RJx4a65c yJx4a65c_size_8abf5 yJx4a65c_size_8abf5, Cond.initialized RJx4a65c, Cond.code yJx4a65c_size_8abf5 cJx4a65c_size_8abf5 1 (some .int), Cond.fieldLink RJx4a65c 48 "java/util/ArrayList" "size" "I", Cond.methodLink RX6 122 yJx4a65c_get_915e3, Cond.instanceMethod yJx4a65c_get_915e3, Cond.selects RJx4a65c yJx4a65c_get_915e3 yJx4a65c_get_915e3, Cond.code yJx4a65c_get_915e3 cJx4a65c_get_915e3 2 (some (.object "java/lang/Object")), Cond.methodLink RJx4a65c 118 yJ15_checkIndex_7cf53, Cond.static yJ15_checkIndex_7cf53, Cond.initialized RJ15, Cond.code yJ15_checkIndex_7cf53 cJ15_checkIndex_7cf53 2 (some .int), Cond.methodLink RJ15 105 yJ3_checkIndex_8e157, Cond.static yJ3_checkIndex_8e157, Cond.initialized RJ3, Cond.code yJ3_checkIndex_8e157 cJ3_checkIndex_8e157 3 (some .int), Cond.methodLink RJx4a65c 123 yJx4a65c_elementData_915e3, Cond.instanceMethod yJx4a65c_elementData_915e3, Cond.selects RJx4a65c yJx4a65c_elementData_915e3 yJx4a65c_elementData_915e3]
def wsX6_holdsStanding_r2 : List Cond := [Cond.code yJx4a65c_elementData_915e3 cJx4a65c_elementData_915e3 2 (some (.object "java/lang/Object")), Cond.fieldLink RJx4a65c 9 "java/util/ArrayList" "elementData" "[Ljava/lang/Object;", Cond.methodLink RX6 435 yX3_standsAt, Cond.instanceMethod yX3_standsAt, Cond.selects RX3 yX3_standsAt yX3_standsAt, Cond.initialized RX3, Cond.code yX3_standsAt cX3_standsAt 2 (some .boolean), Cond.fieldLink RX3 13 "Tureenlist$Hold" "used" "Z", Cond.fieldLink RX3 17 "Tureenlist$Hold" "of" "LTureenlist$Wish;", Cond.sameField "Tureenlist$Hold" "Tureenlist$Deed" "of" "LTureenlist$Wish;", Cond.fieldLink RX3 21 "Tureenlist$Wish" "struck" "Z", Cond.fieldLink RX3 26 "Tureenlist$Hold" "since" "I", Cond.sameField "Tureenlist$Hold" "Tureenlist$Deed" "since" "I", Cond.fieldLink RX3 7 "Tureenlist$Hold" "minutes" "I", Cond.methodLink RX6 235 yX6_oneIf, Cond.static yX6_oneIf, Cond.initialized RX6, Cond.code yX6_oneIf cX6_oneIf 1 (some .int)]
def wsX6_holdsStanding : List Cond := .code yX6_holdsStanding cX6_holdsStanding 3 (some .int) :: ((wsX6_holdsStanding_r1 ++ wsX6_holdsStanding_r2) ++ wsX60 ++ wsJx4a65c0 ++ wsX30 ++ wsX10 ++ wsX50)
def wsX6_pass_r1 : List Cond := [Cond.classLink RX6 29 "java/lang/IllegalArgumentException", Cond.initialized "java/lang/IllegalArgumentException", Cond.classLink RX6 51 "java/lang/IllegalStateException", Cond.initialized "java/lang/IllegalStateException", Cond.fieldLink RX6 145 "Tureenlist" "minute" "I", Cond.methodLink RX6 226 yX6_holdsStanding, Cond.instanceMethod yX6_holdsStanding, Cond.selects RX6 yX6_holdsStanding yX6_holdsStanding, Cond.initialized RX6, Cond.code yX6_holdsStanding cX6_holdsStanding 3 (some .int), Cond.fieldLink RX6 22 "Tureenlist" "holds" "Ljava/util/ArrayList;", Cond.classLink RX6 143 "Tureenlist$Hold", Cond.methodLink RX6 47 yJx4a65c_size_8abf5, Cond.instanceMethod yJx4a65c_size_8abf5, Cond.selects RJx4a65c yJx4a65c_size_8abf5 yJx4a65c_size_8abf5, Cond.initialized RJx4a65c, Cond.code yJx4a65c_size_8abf5 cJx4a65c_size_8abf5 1 (some .int), Cond.fieldLink RJx4a65c 48 "java/util/ArrayList" "size" "I", Cond.methodLink RX6 122 yJx4a65c_get_915e3, Cond.instanceMethod yJx4a65c_get_915e3, Cond.selects RJx4a65c yJx4a65c_get_915e3 yJx4a65c_get_915e3, Cond.code yJx4a65c_get_915e3 cJx4a65c_get_915e3 2 (some (.object "java/lang/Object")), Cond.methodLink RJx4a65c 118 yJ15_checkIndex_7cf53, Cond.static yJ15_checkIndex_7cf53]
def wsX6_pass_r2 : List Cond := [Cond.initialized RJ15, Cond.code yJ15_checkIndex_7cf53 cJ15_checkIndex_7cf53 2 (some .int), Cond.methodLink RJ15 105 yJ3_checkIndex_8e157, Cond.static yJ3_checkIndex_8e157, Cond.initialized RJ3, Cond.code yJ3_checkIndex_8e157 cJ3_checkIndex_8e157 3 (some .int), Cond.methodLink RJx4a65c 123 yJx4a65c_elementData_915e3, Cond.instanceMethod yJx4a65c_elementData_915e3, Cond.selects RJx4a65c yJx4a65c_elementData_915e3 yJx4a65c_elementData_915e3, Cond.code yJx4a65c_elementData_915e3 cJx4a65c_elementData_915e3 2 (some (.object "java/lang/Object")), Cond.fieldLink RJx4a65c 9 "java/util/ArrayList" "elementData" "[Ljava/lang/Object;", Cond.methodLink RX6 435 yX3_standsAt, Cond.instanceMethod yX3_standsAt, Cond.selects RX3 yX3_standsAt yX3_standsAt, Cond.initialized RX3, Cond.code yX3_standsAt cX3_standsAt 2 (some .boolean), Cond.fieldLink RX3 13 "Tureenlist$Hold" "used" "Z", Cond.fieldLink RX3 17 "Tureenlist$Hold" "of" "LTureenlist$Wish;", Cond.sameField "Tureenlist$Hold" "Tureenlist$Deed" "of" "LTureenlist$Wish;", Cond.fieldLink RX3 21 "Tureenlist$Wish" "struck" "Z", Cond.fieldLink RX3 26 "Tureenlist$Hold" "since" "I", Cond.sameField "Tureenlist$Hold" "Tureenlist$Deed" "since" "I", Cond.fieldLink RX3 7 "Tureenlist$Hold" "minutes" "I", Cond.methodLink RX6 235 yX6_oneIf]
def wsX6_pass_r3 : List Cond := [Cond.static yX6_oneIf, Cond.code yX6_oneIf cX6_oneIf 1 (some .int)]
def wsX6_pass : List Cond := .code yX6_pass cX6_pass 2 (some .int) :: ((wsX6_pass_r1 ++ (wsX6_pass_r2 ++ wsX6_pass_r3)) ++ wsX60 ++ wsJx4a65c0 ++ wsX30 ++ wsX10 ++ wsX50 ++ (vx_atS RX6 33 "java/lang/IllegalArgumentException" ["java/lang/RuntimeException", "java/lang/Exception"]).filter goodWord ++ (vx_atS RX6 55 "java/lang/IllegalStateException" ["java/lang/RuntimeException", "java/lang/Exception"]).filter goodWord)
def wsX6_giftsOf_r1 : List Cond := [Cond.fieldLink RX6 19 "Tureenlist" "gifts" "Ljava/util/ArrayList;", Cond.classLink RX6 171 "Tureenlist$Gift", Cond.fieldLink RX6 297 "Tureenlist$Gift" "state" "I", Cond.fieldLink RX6 185 "Tureenlist$Gift" "of" "LTureenlist$Wish;", Cond.sameField "Tureenlist$Gift" "Tureenlist$Deed" "of" "LTureenlist$Wish;", Cond.methodLink RX6 47 yJx4a65c_size_8abf5, Cond.instanceMethod yJx4a65c_size_8abf5, Cond.selects RJx4a65c yJx4a65c_size_8abf5 yJx4a65c_size_8abf5, Cond.initialized RJx4a65c, Cond.code yJx4a65c_size_8abf5 cJx4a65c_size_8abf5 1 (some .int), Cond.fieldLink RJx4a65c 48 "java/util/ArrayList" "size" "I", Cond.methodLink RX6 122 yJx4a65c_get_915e3, Cond.instanceMethod yJx4a65c_get_915e3, Cond.selects RJx4a65c yJx4a65c_get_915e3 yJx4a65c_get_915e3, Cond.code yJx4a65c_get_915e3 cJx4a65c_get_915e3 2 (some (.object "java/lang/Object")), Cond.methodLink RJx4a65c 118 yJ15_checkIndex_7cf53, Cond.static yJ15_checkIndex_7cf53, Cond.initialized RJ15, Cond.code yJ15_checkIndex_7cf53 cJ15_checkIndex_7cf53 2 (some .int), Cond.methodLink RJ15 105 yJ3_checkIndex_8e157, Cond.static yJ3_checkIndex_8e157, Cond.initialized RJ3, Cond.code yJ3_checkIndex_8e157 cJ3_checkIndex_8e157 3 (some .int), Cond.methodLink RJx4a65c 123 yJx4a65c_elementData_915e3]
def wsX6_giftsOf_r2 : List Cond := [Cond.instanceMethod yJx4a65c_elementData_915e3, Cond.selects RJx4a65c yJx4a65c_elementData_915e3 yJx4a65c_elementData_915e3, Cond.code yJx4a65c_elementData_915e3 cJx4a65c_elementData_915e3 2 (some (.object "java/lang/Object")), Cond.fieldLink RJx4a65c 9 "java/util/ArrayList" "elementData" "[Ljava/lang/Object;", Cond.methodLink RX6 235 yX6_oneIf, Cond.static yX6_oneIf, Cond.initialized RX6, Cond.code yX6_oneIf cX6_oneIf 1 (some .int)]
def wsX6_giftsOf : List Cond := .code yX6_giftsOf cX6_giftsOf 6 (some .int) :: ((wsX6_giftsOf_r1 ++ wsX6_giftsOf_r2) ++ wsX60 ++ wsX10 ++ wsX30 ++ wsJx4a65c0)
def wsX6_ofWish_r1 : List Cond := [Cond.classLink RX6 29 "java/lang/IllegalArgumentException", Cond.initialized "java/lang/IllegalArgumentException", Cond.fieldLink RX6 232 "Tureenlist$Wish" "count" "I", Cond.fieldLink RX6 88 "Tureenlist$Wish" "cost" "I", Cond.fieldLink RX6 78 "Tureenlist$Wish" "forMany" "Z", Cond.fieldLink RX6 98 "Tureenlist$Wish" "struck" "Z", Cond.methodLink RX6 74 yX6_wishNumbered, Cond.instanceMethod yX6_wishNumbered, Cond.selects RX6 yX6_wishNumbered yX6_wishNumbered, Cond.initialized RX6, Cond.code yX6_wishNumbered cX6_wishNumbered 2 (some (.object "Tureenlist$Wish")), Cond.classLink RX6 284 "java/lang/IndexOutOfBoundsException", Cond.initialized "java/lang/IndexOutOfBoundsException", Cond.fieldLink RX6 12 "Tureenlist" "wishes" "Ljava/util/ArrayList;", Cond.classLink RX6 56 "Tureenlist$Wish", Cond.methodLink RX6 47 yJx4a65c_size_8abf5, Cond.instanceMethod yJx4a65c_size_8abf5, Cond.selects RJx4a65c yJx4a65c_size_8abf5 yJx4a65c_size_8abf5, Cond.initialized RJx4a65c, Cond.code yJx4a65c_size_8abf5 cJx4a65c_size_8abf5 1 (some .int), Cond.fieldLink RJx4a65c 48 "java/util/ArrayList" "size" "I", Cond.methodLink RX6 122 yJx4a65c_get_915e3, Cond.instanceMethod yJx4a65c_get_915e3, Cond.selects RJx4a65c yJx4a65c_get_915e3 yJx4a65c_get_915e3]
def wsX6_ofWish_r2 : List Cond := [Cond.code yJx4a65c_get_915e3 cJx4a65c_get_915e3 2 (some (.object "java/lang/Object")), Cond.methodLink RJx4a65c 118 yJ15_checkIndex_7cf53, Cond.static yJ15_checkIndex_7cf53, Cond.initialized RJ15, Cond.code yJ15_checkIndex_7cf53 cJ15_checkIndex_7cf53 2 (some .int), Cond.methodLink RJ15 105 yJ3_checkIndex_8e157, Cond.static yJ3_checkIndex_8e157, Cond.initialized RJ3, Cond.code yJ3_checkIndex_8e157 cJ3_checkIndex_8e157 3 (some .int), Cond.methodLink RJx4a65c 123 yJx4a65c_elementData_915e3, Cond.instanceMethod yJx4a65c_elementData_915e3, Cond.selects RJx4a65c yJx4a65c_elementData_915e3 yJx4a65c_elementData_915e3, Cond.code yJx4a65c_elementData_915e3 cJx4a65c_elementData_915e3 2 (some (.object "java/lang/Object")), Cond.fieldLink RJx4a65c 9 "java/util/ArrayList" "elementData" "[Ljava/lang/Object;", Cond.methodLink RX6 235 yX6_oneIf, Cond.static yX6_oneIf, Cond.code yX6_oneIf cX6_oneIf 1 (some .int), Cond.methodLink RX6 239 yX6_giftsOf, Cond.instanceMethod yX6_giftsOf, Cond.selects RX6 yX6_giftsOf yX6_giftsOf, Cond.code yX6_giftsOf cX6_giftsOf 6 (some .int), Cond.fieldLink RX6 19 "Tureenlist" "gifts" "Ljava/util/ArrayList;", Cond.classLink RX6 171 "Tureenlist$Gift", Cond.fieldLink RX6 297 "Tureenlist$Gift" "state" "I"]
def wsX6_ofWish_r3 : List Cond := [Cond.fieldLink RX6 185 "Tureenlist$Gift" "of" "LTureenlist$Wish;", Cond.sameField "Tureenlist$Gift" "Tureenlist$Deed" "of" "LTureenlist$Wish;", Cond.methodLink RX6 91 yX5_pledged, Cond.instanceMethod yX5_pledged, Cond.selects RX5 yX5_pledged yX5_pledged, Cond.initialized RX5, Cond.code yX5_pledged cX5_pledged 3 (some .int), Cond.fieldLink RX5 26 "Tureenlist$Wish" "pledges" "Ljava/util/ArrayList;", Cond.classLink RX5 38 "Tureenlist$Pledge", Cond.fieldLink RX5 40 "Tureenlist$Pledge" "pence" "I", Cond.methodLink RX5 30 yJx4a65c_size_8abf5, Cond.methodLink RX5 34 yJx4a65c_get_915e3, Cond.methodLink RX6 206 yX5_lacking, Cond.instanceMethod yX5_lacking, Cond.selects RX5 yX5_lacking yX5_lacking, Cond.code yX5_lacking cX5_lacking 1 (some .int), Cond.fieldLink RX5 19 "Tureenlist$Wish" "forMany" "Z", Cond.fieldLink RX5 16 "Tureenlist$Wish" "cost" "I", Cond.methodLink RX5 50 Lib.Math.max.name, Cond.static Lib.Math.max.name, Cond.initialized "java/lang/Math", Cond.code Lib.Math.max.name Lib.Math.max.code 2 (some .int), Cond.methodLink RX5 47 yX5_pledged, Cond.methodLink RX6 242 yX5_isOrdered]
def wsX6_ofWish_r4 : List Cond := [Cond.instanceMethod yX5_isOrdered, Cond.selects RX5 yX5_isOrdered yX5_isOrdered, Cond.code yX5_isOrdered cX5_isOrdered 1 (some .boolean), Cond.methodLink RX5 56 yX5_lacking]
def wsX6_ofWish : List Cond := .code yX6_ofWish cX6_ofWish 4 (some .int) :: ((wsX6_ofWish_r1 ++ (wsX6_ofWish_r2 ++ (wsX6_ofWish_r3 ++ wsX6_ofWish_r4))) ++ wsX50 ++ wsX60 ++ wsJx4a65c0 ++ wsX10 ++ wsX30 ++ wsX40 ++ (vx_atS RX6 33 "java/lang/IllegalArgumentException" ["java/lang/RuntimeException", "java/lang/Exception"]).filter goodWord ++ (vx_atS RX6 286 "java/lang/IndexOutOfBoundsException" ["java/lang/RuntimeException", "java/lang/Exception"]).filter goodWord)
def wsX6_giftsBy_r1 : List Cond := [Cond.fieldLink RX6 19 "Tureenlist" "gifts" "Ljava/util/ArrayList;", Cond.classLink RX6 171 "Tureenlist$Gift", Cond.fieldLink RX6 297 "Tureenlist$Gift" "state" "I", Cond.fieldLink RX6 181 "Tureenlist$Gift" "by" "LTureenlist$Guest;", Cond.sameField "Tureenlist$Gift" "Tureenlist$Deed" "by" "LTureenlist$Guest;", Cond.methodLink RX6 47 yJx4a65c_size_8abf5, Cond.instanceMethod yJx4a65c_size_8abf5, Cond.selects RJx4a65c yJx4a65c_size_8abf5 yJx4a65c_size_8abf5, Cond.initialized RJx4a65c, Cond.code yJx4a65c_size_8abf5 cJx4a65c_size_8abf5 1 (some .int), Cond.fieldLink RJx4a65c 48 "java/util/ArrayList" "size" "I", Cond.methodLink RX6 122 yJx4a65c_get_915e3, Cond.instanceMethod yJx4a65c_get_915e3, Cond.selects RJx4a65c yJx4a65c_get_915e3 yJx4a65c_get_915e3, Cond.code yJx4a65c_get_915e3 cJx4a65c_get_915e3 2 (some (.object "java/lang/Object")), Cond.methodLink RJx4a65c 118 yJ15_checkIndex_7cf53, Cond.static yJ15_checkIndex_7cf53, Cond.initialized RJ15, Cond.code yJ15_checkIndex_7cf53 cJ15_checkIndex_7cf53 2 (some .int), Cond.methodLink RJ15 105 yJ3_checkIndex_8e157, Cond.static yJ3_checkIndex_8e157, Cond.initialized RJ3, Cond.code yJ3_checkIndex_8e157 cJ3_checkIndex_8e157 3 (some .int), Cond.methodLink RJx4a65c 123 yJx4a65c_elementData_915e3]
def wsX6_giftsBy_r2 : List Cond := [Cond.instanceMethod yJx4a65c_elementData_915e3, Cond.selects RJx4a65c yJx4a65c_elementData_915e3 yJx4a65c_elementData_915e3, Cond.code yJx4a65c_elementData_915e3 cJx4a65c_elementData_915e3 2 (some (.object "java/lang/Object")), Cond.fieldLink RJx4a65c 9 "java/util/ArrayList" "elementData" "[Ljava/lang/Object;", Cond.methodLink RX6 235 yX6_oneIf, Cond.static yX6_oneIf, Cond.initialized RX6, Cond.code yX6_oneIf cX6_oneIf 1 (some .int)]
def wsX6_giftsBy : List Cond := .code yX6_giftsBy cX6_giftsBy 6 (some .int) :: ((wsX6_giftsBy_r1 ++ wsX6_giftsBy_r2) ++ wsX60 ++ wsX10 ++ wsX30 ++ wsJx4a65c0)
def wsX6_paidForKeptBy_r1 : List Cond := [Cond.fieldLink RX6 19 "Tureenlist" "gifts" "Ljava/util/ArrayList;", Cond.classLink RX6 171 "Tureenlist$Gift", Cond.fieldLink RX6 181 "Tureenlist$Gift" "by" "LTureenlist$Guest;", Cond.sameField "Tureenlist$Gift" "Tureenlist$Deed" "by" "LTureenlist$Guest;", Cond.fieldLink RX6 294 "Tureenlist$Gift" "paid" "I", Cond.methodLink RX6 47 yJx4a65c_size_8abf5, Cond.instanceMethod yJx4a65c_size_8abf5, Cond.selects RJx4a65c yJx4a65c_size_8abf5 yJx4a65c_size_8abf5, Cond.initialized RJx4a65c, Cond.code yJx4a65c_size_8abf5 cJx4a65c_size_8abf5 1 (some .int), Cond.fieldLink RJx4a65c 48 "java/util/ArrayList" "size" "I", Cond.methodLink RX6 122 yJx4a65c_get_915e3, Cond.instanceMethod yJx4a65c_get_915e3, Cond.selects RJx4a65c yJx4a65c_get_915e3 yJx4a65c_get_915e3, Cond.code yJx4a65c_get_915e3 cJx4a65c_get_915e3 2 (some (.object "java/lang/Object")), Cond.methodLink RJx4a65c 118 yJ15_checkIndex_7cf53, Cond.static yJ15_checkIndex_7cf53, Cond.initialized RJ15, Cond.code yJ15_checkIndex_7cf53 cJ15_checkIndex_7cf53 2 (some .int), Cond.methodLink RJ15 105 yJ3_checkIndex_8e157, Cond.static yJ3_checkIndex_8e157, Cond.initialized RJ3, Cond.code yJ3_checkIndex_8e157 cJ3_checkIndex_8e157 3 (some .int), Cond.methodLink RJx4a65c 123 yJx4a65c_elementData_915e3]
def wsX6_paidForKeptBy_r2 : List Cond := [Cond.instanceMethod yJx4a65c_elementData_915e3, Cond.selects RJx4a65c yJx4a65c_elementData_915e3 yJx4a65c_elementData_915e3, Cond.code yJx4a65c_elementData_915e3 cJx4a65c_elementData_915e3 2 (some (.object "java/lang/Object")), Cond.fieldLink RJx4a65c 9 "java/util/ArrayList" "elementData" "[Ljava/lang/Object;", Cond.methodLink RX6 177 yX1_isKept, Cond.instanceMethod yX1_isKept, Cond.selects RX1 yX1_isKept yX1_isKept, Cond.initialized RX1, Cond.code yX1_isKept cX1_isKept 1 (some .boolean), Cond.fieldLink RX1 18 "Tureenlist$Gift" "state" "I"]
def wsX6_paidForKeptBy : List Cond := .code yX6_paidForKeptBy cX6_paidForKeptBy 5 (some .int) :: ((wsX6_paidForKeptBy_r1 ++ wsX6_paidForKeptBy_r2) ++ wsX60 ++ wsX10 ++ wsX30 ++ wsJx4a65c0)
def wsX6_pledgedBy_r1 : List Cond := [Cond.fieldLink RX6 12 "Tureenlist" "wishes" "Ljava/util/ArrayList;", Cond.classLink RX6 56 "Tureenlist$Wish", Cond.methodLink RX6 47 yJx4a65c_size_8abf5, Cond.instanceMethod yJx4a65c_size_8abf5, Cond.selects RJx4a65c yJx4a65c_size_8abf5 yJx4a65c_size_8abf5, Cond.initialized RJx4a65c, Cond.code yJx4a65c_size_8abf5 cJx4a65c_size_8abf5 1 (some .int), Cond.fieldLink RJx4a65c 48 "java/util/ArrayList" "size" "I", Cond.methodLink RX6 122 yJx4a65c_get_915e3, Cond.instanceMethod yJx4a65c_get_915e3, Cond.selects RJx4a65c yJx4a65c_get_915e3 yJx4a65c_get_915e3, Cond.code yJx4a65c_get_915e3 cJx4a65c_get_915e3 2 (some (.object "java/lang/Object")), Cond.methodLink RJx4a65c 118 yJ15_checkIndex_7cf53, Cond.static yJ15_checkIndex_7cf53, Cond.initialized RJ15, Cond.code yJ15_checkIndex_7cf53 cJ15_checkIndex_7cf53 2 (some .int), Cond.methodLink RJ15 105 yJ3_checkIndex_8e157, Cond.static yJ3_checkIndex_8e157, Cond.initialized RJ3, Cond.code yJ3_checkIndex_8e157 cJ3_checkIndex_8e157 3 (some .int), Cond.methodLink RJx4a65c 123 yJx4a65c_elementData_915e3, Cond.instanceMethod yJx4a65c_elementData_915e3, Cond.selects RJx4a65c yJx4a65c_elementData_915e3 yJx4a65c_elementData_915e3, Cond.code yJx4a65c_elementData_915e3 cJx4a65c_elementData_915e3 2 (some (.object "java/lang/Object"))]
def wsX6_pledgedBy_r2 : List Cond := [Cond.fieldLink RJx4a65c 9 "java/util/ArrayList" "elementData" "[Ljava/lang/Object;", Cond.methodLink RX6 324 yX5_pledgedBy, Cond.instanceMethod yX5_pledgedBy, Cond.selects RX5 yX5_pledgedBy yX5_pledgedBy, Cond.initialized RX5, Cond.code yX5_pledgedBy cX5_pledgedBy 5 (some .int), Cond.fieldLink RX5 26 "Tureenlist$Wish" "pledges" "Ljava/util/ArrayList;", Cond.classLink RX5 38 "Tureenlist$Pledge", Cond.fieldLink RX5 43 "Tureenlist$Pledge" "by" "LTureenlist$Guest;", Cond.fieldLink RX5 40 "Tureenlist$Pledge" "pence" "I", Cond.methodLink RX5 30 yJx4a65c_size_8abf5, Cond.methodLink RX5 34 yJx4a65c_get_915e3]
def wsX6_pledgedBy : List Cond := .code yX6_pledgedBy cX6_pledgedBy 4 (some .int) :: ((wsX6_pledgedBy_r1 ++ wsX6_pledgedBy_r2) ++ wsX60 ++ wsJx4a65c0 ++ wsX50 ++ wsX40)
def wsX6_holdsStandingOf_r1 : List Cond := [Cond.fieldLink RX6 22 "Tureenlist" "holds" "Ljava/util/ArrayList;", Cond.classLink RX6 143 "Tureenlist$Hold", Cond.fieldLink RX6 448 "Tureenlist$Hold" "by" "LTureenlist$Guest;", Cond.sameField "Tureenlist$Hold" "Tureenlist$Deed" "by" "LTureenlist$Guest;", Cond.fieldLink RX6 145 "Tureenlist" "minute" "I", Cond.methodLink RX6 47 yJx4a65c_size_8abf5, Cond.instanceMethod yJx4a65c_size_8abf5, Cond.selects RJx4a65c yJx4a65c_size_8abf5 yJx4a65c_size_8abf5, Cond.initialized RJx4a65c, Cond.code yJx4a65c_size_8abf5 cJx4a65c_size_8abf5 1 (some .int), Cond.fieldLink RJx4a65c 48 "java/util/ArrayList" "size" "I", Cond.methodLink RX6 122 yJx4a65c_get_915e3, Cond.instanceMethod yJx4a65c_get_915e3, Cond.selects RJx4a65c yJx4a65c_get_915e3 yJx4a65c_get_915e3, Cond.code yJx4a65c_get_915e3 cJx4a65c_get_915e3 2 (some (.object "java/lang/Object")), Cond.methodLink RJx4a65c 118 yJ15_checkIndex_7cf53, Cond.static yJ15_checkIndex_7cf53, Cond.initialized RJ15, Cond.code yJ15_checkIndex_7cf53 cJ15_checkIndex_7cf53 2 (some .int), Cond.methodLink RJ15 105 yJ3_checkIndex_8e157, Cond.static yJ3_checkIndex_8e157, Cond.initialized RJ3, Cond.code yJ3_checkIndex_8e157 cJ3_checkIndex_8e157 3 (some .int), Cond.methodLink RJx4a65c 123 yJx4a65c_elementData_915e3]
def wsX6_holdsStandingOf_r2 : List Cond := [Cond.instanceMethod yJx4a65c_elementData_915e3, Cond.selects RJx4a65c yJx4a65c_elementData_915e3 yJx4a65c_elementData_915e3, Cond.code yJx4a65c_elementData_915e3 cJx4a65c_elementData_915e3 2 (some (.object "java/lang/Object")), Cond.fieldLink RJx4a65c 9 "java/util/ArrayList" "elementData" "[Ljava/lang/Object;", Cond.methodLink RX6 435 yX3_standsAt, Cond.instanceMethod yX3_standsAt, Cond.selects RX3 yX3_standsAt yX3_standsAt, Cond.initialized RX3, Cond.code yX3_standsAt cX3_standsAt 2 (some .boolean), Cond.fieldLink RX3 13 "Tureenlist$Hold" "used" "Z", Cond.fieldLink RX3 17 "Tureenlist$Hold" "of" "LTureenlist$Wish;", Cond.sameField "Tureenlist$Hold" "Tureenlist$Deed" "of" "LTureenlist$Wish;", Cond.fieldLink RX3 21 "Tureenlist$Wish" "struck" "Z", Cond.fieldLink RX3 26 "Tureenlist$Hold" "since" "I", Cond.sameField "Tureenlist$Hold" "Tureenlist$Deed" "since" "I", Cond.fieldLink RX3 7 "Tureenlist$Hold" "minutes" "I", Cond.methodLink RX6 235 yX6_oneIf, Cond.static yX6_oneIf, Cond.initialized RX6, Cond.code yX6_oneIf cX6_oneIf 1 (some .int)]
def wsX6_holdsStandingOf : List Cond := .code yX6_holdsStandingOf cX6_holdsStandingOf 5 (some .int) :: ((wsX6_holdsStandingOf_r1 ++ wsX6_holdsStandingOf_r2) ++ wsX60 ++ wsX10 ++ wsX30 ++ wsJx4a65c0 ++ wsX50)
def wsX6_ofGuest_r1 : List Cond := [Cond.classLink RX6 29 "java/lang/IllegalArgumentException", Cond.initialized "java/lang/IllegalArgumentException", Cond.fieldLink RX6 158 "Tureenlist$Guest" "purse" "I", Cond.methodLink RX6 129 yX6_guestNumbered, Cond.instanceMethod yX6_guestNumbered, Cond.selects RX6 yX6_guestNumbered yX6_guestNumbered, Cond.initialized RX6, Cond.code yX6_guestNumbered cX6_guestNumbered 2 (some (.object "Tureenlist$Guest")), Cond.classLink RX6 284 "java/lang/IndexOutOfBoundsException", Cond.initialized "java/lang/IndexOutOfBoundsException", Cond.fieldLink RX6 16 "Tureenlist" "guests" "Ljava/util/ArrayList;", Cond.classLink RX6 69 "Tureenlist$Guest", Cond.methodLink RX6 47 yJx4a65c_size_8abf5, Cond.instanceMethod yJx4a65c_size_8abf5, Cond.selects RJx4a65c yJx4a65c_size_8abf5 yJx4a65c_size_8abf5, Cond.initialized RJx4a65c, Cond.code yJx4a65c_size_8abf5 cJx4a65c_size_8abf5 1 (some .int), Cond.fieldLink RJx4a65c 48 "java/util/ArrayList" "size" "I", Cond.methodLink RX6 122 yJx4a65c_get_915e3, Cond.instanceMethod yJx4a65c_get_915e3, Cond.selects RJx4a65c yJx4a65c_get_915e3 yJx4a65c_get_915e3, Cond.code yJx4a65c_get_915e3 cJx4a65c_get_915e3 2 (some (.object "java/lang/Object")), Cond.methodLink RJx4a65c 118 yJ15_checkIndex_7cf53, Cond.static yJ15_checkIndex_7cf53]
def wsX6_ofGuest_r2 : List Cond := [Cond.initialized RJ15, Cond.code yJ15_checkIndex_7cf53 cJ15_checkIndex_7cf53 2 (some .int), Cond.methodLink RJ15 105 yJ3_checkIndex_8e157, Cond.static yJ3_checkIndex_8e157, Cond.initialized RJ3, Cond.code yJ3_checkIndex_8e157 cJ3_checkIndex_8e157 3 (some .int), Cond.methodLink RJx4a65c 123 yJx4a65c_elementData_915e3, Cond.instanceMethod yJx4a65c_elementData_915e3, Cond.selects RJx4a65c yJx4a65c_elementData_915e3 yJx4a65c_elementData_915e3, Cond.code yJx4a65c_elementData_915e3 cJx4a65c_elementData_915e3 2 (some (.object "java/lang/Object")), Cond.fieldLink RJx4a65c 9 "java/util/ArrayList" "elementData" "[Ljava/lang/Object;", Cond.methodLink RX6 247 yX6_giftsBy, Cond.instanceMethod yX6_giftsBy, Cond.selects RX6 yX6_giftsBy yX6_giftsBy, Cond.code yX6_giftsBy cX6_giftsBy 6 (some .int), Cond.fieldLink RX6 19 "Tureenlist" "gifts" "Ljava/util/ArrayList;", Cond.classLink RX6 171 "Tureenlist$Gift", Cond.fieldLink RX6 297 "Tureenlist$Gift" "state" "I", Cond.fieldLink RX6 181 "Tureenlist$Gift" "by" "LTureenlist$Guest;", Cond.sameField "Tureenlist$Gift" "Tureenlist$Deed" "by" "LTureenlist$Guest;", Cond.methodLink RX6 235 yX6_oneIf, Cond.static yX6_oneIf, Cond.code yX6_oneIf cX6_oneIf 1 (some .int), Cond.methodLink RX6 251 yX6_paidForKeptBy]
def wsX6_ofGuest_r3 : List Cond := [Cond.instanceMethod yX6_paidForKeptBy, Cond.selects RX6 yX6_paidForKeptBy yX6_paidForKeptBy, Cond.code yX6_paidForKeptBy cX6_paidForKeptBy 5 (some .int), Cond.fieldLink RX6 294 "Tureenlist$Gift" "paid" "I", Cond.methodLink RX6 177 yX1_isKept, Cond.instanceMethod yX1_isKept, Cond.selects RX1 yX1_isKept yX1_isKept, Cond.initialized RX1, Cond.code yX1_isKept cX1_isKept 1 (some .boolean), Cond.fieldLink RX1 18 "Tureenlist$Gift" "state" "I", Cond.methodLink RX6 255 yX6_pledgedBy, Cond.instanceMethod yX6_pledgedBy, Cond.selects RX6 yX6_pledgedBy yX6_pledgedBy, Cond.code yX6_pledgedBy cX6_pledgedBy 4 (some .int), Cond.fieldLink RX6 12 "Tureenlist" "wishes" "Ljava/util/ArrayList;", Cond.classLink RX6 56 "Tureenlist$Wish", Cond.methodLink RX6 324 yX5_pledgedBy, Cond.instanceMethod yX5_pledgedBy, Cond.selects RX5 yX5_pledgedBy yX5_pledgedBy, Cond.initialized RX5, Cond.code yX5_pledgedBy cX5_pledgedBy 5 (some .int), Cond.fieldLink RX5 26 "Tureenlist$Wish" "pledges" "Ljava/util/ArrayList;", Cond.classLink RX5 38 "Tureenlist$Pledge", Cond.fieldLink RX5 43 "Tureenlist$Pledge" "by" "LTureenlist$Guest;"]
def wsX6_ofGuest_r4 : List Cond := [Cond.fieldLink RX5 40 "Tureenlist$Pledge" "pence" "I", Cond.methodLink RX5 30 yJx4a65c_size_8abf5, Cond.methodLink RX5 34 yJx4a65c_get_915e3, Cond.methodLink RX6 258 yX6_holdsStandingOf, Cond.instanceMethod yX6_holdsStandingOf, Cond.selects RX6 yX6_holdsStandingOf yX6_holdsStandingOf, Cond.code yX6_holdsStandingOf cX6_holdsStandingOf 5 (some .int), Cond.fieldLink RX6 22 "Tureenlist" "holds" "Ljava/util/ArrayList;", Cond.classLink RX6 143 "Tureenlist$Hold", Cond.fieldLink RX6 448 "Tureenlist$Hold" "by" "LTureenlist$Guest;", Cond.sameField "Tureenlist$Hold" "Tureenlist$Deed" "by" "LTureenlist$Guest;", Cond.fieldLink RX6 145 "Tureenlist" "minute" "I", Cond.methodLink RX6 435 yX3_standsAt, Cond.instanceMethod yX3_standsAt, Cond.selects RX3 yX3_standsAt yX3_standsAt, Cond.initialized RX3, Cond.code yX3_standsAt cX3_standsAt 2 (some .boolean), Cond.fieldLink RX3 13 "Tureenlist$Hold" "used" "Z", Cond.fieldLink RX3 17 "Tureenlist$Hold" "of" "LTureenlist$Wish;", Cond.sameField "Tureenlist$Hold" "Tureenlist$Deed" "of" "LTureenlist$Wish;", Cond.fieldLink RX3 21 "Tureenlist$Wish" "struck" "Z", Cond.fieldLink RX3 26 "Tureenlist$Hold" "since" "I", Cond.sameField "Tureenlist$Hold" "Tureenlist$Deed" "since" "I", Cond.fieldLink RX3 7 "Tureenlist$Hold" "minutes" "I"]
def wsX6_ofGuest : List Cond := .code yX6_ofGuest cX6_ofGuest 4 (some .int) :: ((wsX6_ofGuest_r1 ++ (wsX6_ofGuest_r2 ++ (wsX6_ofGuest_r3 ++ wsX6_ofGuest_r4))) ++ wsX20 ++ wsX60 ++ wsJx4a65c0 ++ wsX10 ++ wsX30 ++ wsX50 ++ wsX40 ++ (vx_atS RX6 33 "java/lang/IllegalArgumentException" ["java/lang/RuntimeException", "java/lang/Exception"]).filter goodWord ++ (vx_atS RX6 286 "java/lang/IndexOutOfBoundsException" ["java/lang/RuntimeException", "java/lang/Exception"]).filter goodWord)
def wsX6_left_r1 : List Cond := [Cond.methodLink RX6 101 yX6_checkTill, Cond.static yX6_checkTill, Cond.initialized RX6, Cond.code yX6_checkTill cX6_checkTill 1 none, Cond.classLink RX6 284 "java/lang/IndexOutOfBoundsException", Cond.initialized "java/lang/IndexOutOfBoundsException", Cond.methodLink RX6 74 yX6_wishNumbered, Cond.instanceMethod yX6_wishNumbered, Cond.selects RX6 yX6_wishNumbered yX6_wishNumbered, Cond.code yX6_wishNumbered cX6_wishNumbered 2 (some (.object "Tureenlist$Wish")), Cond.fieldLink RX6 12 "Tureenlist" "wishes" "Ljava/util/ArrayList;", Cond.classLink RX6 56 "Tureenlist$Wish", Cond.methodLink RX6 47 yJx4a65c_size_8abf5, Cond.instanceMethod yJx4a65c_size_8abf5, Cond.selects RJx4a65c yJx4a65c_size_8abf5 yJx4a65c_size_8abf5, Cond.initialized RJx4a65c, Cond.code yJx4a65c_size_8abf5 cJx4a65c_size_8abf5 1 (some .int), Cond.fieldLink RJx4a65c 48 "java/util/ArrayList" "size" "I", Cond.methodLink RX6 122 yJx4a65c_get_915e3, Cond.instanceMethod yJx4a65c_get_915e3, Cond.selects RJx4a65c yJx4a65c_get_915e3 yJx4a65c_get_915e3, Cond.code yJx4a65c_get_915e3 cJx4a65c_get_915e3 2 (some (.object "java/lang/Object")), Cond.methodLink RJx4a65c 118 yJ15_checkIndex_7cf53, Cond.static yJ15_checkIndex_7cf53]
def wsX6_left_r2 : List Cond := [Cond.initialized RJ15, Cond.code yJ15_checkIndex_7cf53 cJ15_checkIndex_7cf53 2 (some .int), Cond.methodLink RJ15 105 yJ3_checkIndex_8e157, Cond.static yJ3_checkIndex_8e157, Cond.initialized RJ3, Cond.code yJ3_checkIndex_8e157 cJ3_checkIndex_8e157 3 (some .int), Cond.methodLink RJx4a65c 123 yJx4a65c_elementData_915e3, Cond.instanceMethod yJx4a65c_elementData_915e3, Cond.selects RJx4a65c yJx4a65c_elementData_915e3 yJx4a65c_elementData_915e3, Cond.code yJx4a65c_elementData_915e3 cJx4a65c_elementData_915e3 2 (some (.object "java/lang/Object")), Cond.fieldLink RJx4a65c 9 "java/util/ArrayList" "elementData" "[Ljava/lang/Object;", Cond.methodLink RX6 137 yX6_leftAt, Cond.instanceMethod yX6_leftAt, Cond.selects RX6 yX6_leftAt yX6_leftAt, Cond.code yX6_leftAt cX6_leftAt 6 (some .int), Cond.fieldLink RX6 78 "Tureenlist$Wish" "forMany" "Z", Cond.fieldLink RX6 98 "Tureenlist$Wish" "struck" "Z", Cond.fieldLink RX6 232 "Tureenlist$Wish" "count" "I", Cond.fieldLink RX6 22 "Tureenlist" "holds" "Ljava/util/ArrayList;", Cond.classLink RX6 143 "Tureenlist$Hold", Cond.fieldLink RX6 434 "Tureenlist$Hold" "of" "LTureenlist$Wish;", Cond.sameField "Tureenlist$Hold" "Tureenlist$Deed" "of" "LTureenlist$Wish;", Cond.fieldLink RX6 145 "Tureenlist" "minute" "I", Cond.methodLink RX6 408 Lib.Math.max.name]
def wsX6_left_r3 : List Cond := [Cond.static Lib.Math.max.name, Cond.initialized "java/lang/Math", Cond.code Lib.Math.max.name Lib.Math.max.code 2 (some .int), Cond.methodLink RX6 431 yX6_keptOfSeenAt, Cond.instanceMethod yX6_keptOfSeenAt, Cond.selects RX6 yX6_keptOfSeenAt yX6_keptOfSeenAt, Cond.code yX6_keptOfSeenAt cX6_keptOfSeenAt 6 (some .int), Cond.fieldLink RX6 19 "Tureenlist" "gifts" "Ljava/util/ArrayList;", Cond.classLink RX6 171 "Tureenlist$Gift", Cond.fieldLink RX6 185 "Tureenlist$Gift" "of" "LTureenlist$Wish;", Cond.sameField "Tureenlist$Gift" "Tureenlist$Deed" "of" "LTureenlist$Wish;", Cond.methodLink RX6 177 yX1_isKept, Cond.instanceMethod yX1_isKept, Cond.selects RX1 yX1_isKept yX1_isKept, Cond.initialized RX1, Cond.code yX1_isKept cX1_isKept 1 (some .boolean), Cond.fieldLink RX1 18 "Tureenlist$Gift" "state" "I", Cond.methodLink RX6 428 ⟨"Tureenlist$Gift", "isSeenAt", "(I)Z"⟩, Cond.sameMethod "Tureenlist$Gift" "Tureenlist$Deed" "isSeenAt" "(I)Z", Cond.selects RX1 ⟨"Tureenlist$Gift", "isSeenAt", "(I)Z"⟩ yX0_isSeenAt, Cond.instanceMethod yX0_isSeenAt, Cond.initialized RX0, Cond.code yX0_isSeenAt cX0_isSeenAt 2 (some .boolean), Cond.fieldLink RX0 24 "Tureenlist$Deed" "seers" "I"]
def wsX6_left_r4 : List Cond := [Cond.methodLink RX6 435 yX3_standsAt, Cond.instanceMethod yX3_standsAt, Cond.selects RX3 yX3_standsAt yX3_standsAt, Cond.initialized RX3, Cond.code yX3_standsAt cX3_standsAt 2 (some .boolean), Cond.fieldLink RX3 13 "Tureenlist$Hold" "used" "Z", Cond.fieldLink RX3 17 "Tureenlist$Hold" "of" "LTureenlist$Wish;", Cond.fieldLink RX3 21 "Tureenlist$Wish" "struck" "Z", Cond.fieldLink RX3 26 "Tureenlist$Hold" "since" "I", Cond.sameField "Tureenlist$Hold" "Tureenlist$Deed" "since" "I", Cond.fieldLink RX3 7 "Tureenlist$Hold" "minutes" "I", Cond.methodLink RX6 438 ⟨"Tureenlist$Hold", "isSeenAt", "(I)Z"⟩, Cond.sameMethod "Tureenlist$Hold" "Tureenlist$Deed" "isSeenAt" "(I)Z", Cond.selects RX3 ⟨"Tureenlist$Hold", "isSeenAt", "(I)Z"⟩ yX0_isSeenAt]
def wsX6_left : List Cond := .code yX6_left cX6_left 3 (some .int) :: ((wsX6_left_r1 ++ (wsX6_left_r2 ++ (wsX6_left_r3 ++ wsX6_left_r4))) ++ wsX60 ++ wsJx4a65c0 ++ wsX50 ++ wsX10 ++ wsX30 ++ (vx_atS RX6 286 "java/lang/IndexOutOfBoundsException" ["java/lang/RuntimeException", "java/lang/Exception"]).filter goodWord)
def wsX6_keptBoughtAt_r1 : List Cond := [Cond.fieldLink RX6 19 "Tureenlist" "gifts" "Ljava/util/ArrayList;", Cond.classLink RX6 171 "Tureenlist$Gift", Cond.fieldLink RX6 291 "Tureenlist$Gift" "till" "I", Cond.sameField "Tureenlist$Gift" "Tureenlist$Deed" "till" "I", Cond.methodLink RX6 47 yJx4a65c_size_8abf5, Cond.instanceMethod yJx4a65c_size_8abf5, Cond.selects RJx4a65c yJx4a65c_size_8abf5 yJx4a65c_size_8abf5, Cond.initialized RJx4a65c, Cond.code yJx4a65c_size_8abf5 cJx4a65c_size_8abf5 1 (some .int), Cond.fieldLink RJx4a65c 48 "java/util/ArrayList" "size" "I", Cond.methodLink RX6 122 yJx4a65c_get_915e3, Cond.instanceMethod yJx4a65c_get_915e3, Cond.selects RJx4a65c yJx4a65c_get_915e3 yJx4a65c_get_915e3, Cond.code yJx4a65c_get_915e3 cJx4a65c_get_915e3 2 (some (.object "java/lang/Object")), Cond.methodLink RJx4a65c 118 yJ15_checkIndex_7cf53, Cond.static yJ15_checkIndex_7cf53, Cond.initialized RJ15, Cond.code yJ15_checkIndex_7cf53 cJ15_checkIndex_7cf53 2 (some .int), Cond.methodLink RJ15 105 yJ3_checkIndex_8e157, Cond.static yJ3_checkIndex_8e157, Cond.initialized RJ3, Cond.code yJ3_checkIndex_8e157 cJ3_checkIndex_8e157 3 (some .int), Cond.methodLink RJx4a65c 123 yJx4a65c_elementData_915e3, Cond.instanceMethod yJx4a65c_elementData_915e3]
def wsX6_keptBoughtAt_r2 : List Cond := [Cond.selects RJx4a65c yJx4a65c_elementData_915e3 yJx4a65c_elementData_915e3, Cond.code yJx4a65c_elementData_915e3 cJx4a65c_elementData_915e3 2 (some (.object "java/lang/Object")), Cond.fieldLink RJx4a65c 9 "java/util/ArrayList" "elementData" "[Ljava/lang/Object;", Cond.methodLink RX6 177 yX1_isKept, Cond.instanceMethod yX1_isKept, Cond.selects RX1 yX1_isKept yX1_isKept, Cond.initialized RX1, Cond.code yX1_isKept cX1_isKept 1 (some .boolean), Cond.fieldLink RX1 18 "Tureenlist$Gift" "state" "I", Cond.methodLink RX6 235 yX6_oneIf, Cond.static yX6_oneIf, Cond.initialized RX6, Cond.code yX6_oneIf cX6_oneIf 1 (some .int)]
def wsX6_keptBoughtAt : List Cond := .code yX6_keptBoughtAt cX6_keptBoughtAt 5 (some .int) :: ((wsX6_keptBoughtAt_r1 ++ wsX6_keptBoughtAt_r2) ++ wsX60 ++ wsX10 ++ wsX30 ++ wsJx4a65c0)
def wsX6_holdsStandingSeenAt_r1 : List Cond := [Cond.fieldLink RX6 22 "Tureenlist" "holds" "Ljava/util/ArrayList;", Cond.classLink RX6 143 "Tureenlist$Hold", Cond.fieldLink RX6 145 "Tureenlist" "minute" "I", Cond.methodLink RX6 47 yJx4a65c_size_8abf5, Cond.instanceMethod yJx4a65c_size_8abf5, Cond.selects RJx4a65c yJx4a65c_size_8abf5 yJx4a65c_size_8abf5, Cond.initialized RJx4a65c, Cond.code yJx4a65c_size_8abf5 cJx4a65c_size_8abf5 1 (some .int), Cond.fieldLink RJx4a65c 48 "java/util/ArrayList" "size" "I", Cond.methodLink RX6 122 yJx4a65c_get_915e3, Cond.instanceMethod yJx4a65c_get_915e3, Cond.selects RJx4a65c yJx4a65c_get_915e3 yJx4a65c_get_915e3, Cond.code yJx4a65c_get_915e3 cJx4a65c_get_915e3 2 (some (.object "java/lang/Object")), Cond.methodLink RJx4a65c 118 yJ15_checkIndex_7cf53, Cond.static yJ15_checkIndex_7cf53, Cond.initialized RJ15, Cond.code yJ15_checkIndex_7cf53 cJ15_checkIndex_7cf53 2 (some .int), Cond.methodLink RJ15 105 yJ3_checkIndex_8e157, Cond.static yJ3_checkIndex_8e157, Cond.initialized RJ3, Cond.code yJ3_checkIndex_8e157 cJ3_checkIndex_8e157 3 (some .int), Cond.methodLink RJx4a65c 123 yJx4a65c_elementData_915e3, Cond.instanceMethod yJx4a65c_elementData_915e3, Cond.selects RJx4a65c yJx4a65c_elementData_915e3 yJx4a65c_elementData_915e3]
def wsX6_holdsStandingSeenAt_r2 : List Cond := [Cond.code yJx4a65c_elementData_915e3 cJx4a65c_elementData_915e3 2 (some (.object "java/lang/Object")), Cond.fieldLink RJx4a65c 9 "java/util/ArrayList" "elementData" "[Ljava/lang/Object;", Cond.methodLink RX6 435 yX3_standsAt, Cond.instanceMethod yX3_standsAt, Cond.selects RX3 yX3_standsAt yX3_standsAt, Cond.initialized RX3, Cond.code yX3_standsAt cX3_standsAt 2 (some .boolean), Cond.fieldLink RX3 13 "Tureenlist$Hold" "used" "Z", Cond.fieldLink RX3 17 "Tureenlist$Hold" "of" "LTureenlist$Wish;", Cond.sameField "Tureenlist$Hold" "Tureenlist$Deed" "of" "LTureenlist$Wish;", Cond.fieldLink RX3 21 "Tureenlist$Wish" "struck" "Z", Cond.fieldLink RX3 26 "Tureenlist$Hold" "since" "I", Cond.sameField "Tureenlist$Hold" "Tureenlist$Deed" "since" "I", Cond.fieldLink RX3 7 "Tureenlist$Hold" "minutes" "I", Cond.methodLink RX6 438 ⟨"Tureenlist$Hold", "isSeenAt", "(I)Z"⟩, Cond.sameMethod "Tureenlist$Hold" "Tureenlist$Deed" "isSeenAt" "(I)Z", Cond.selects RX3 ⟨"Tureenlist$Hold", "isSeenAt", "(I)Z"⟩ yX0_isSeenAt, Cond.instanceMethod yX0_isSeenAt, Cond.initialized RX0, Cond.code yX0_isSeenAt cX0_isSeenAt 2 (some .boolean), Cond.fieldLink RX0 24 "Tureenlist$Deed" "seers" "I", Cond.methodLink RX6 235 yX6_oneIf, Cond.static yX6_oneIf, Cond.initialized RX6]
def wsX6_holdsStandingSeenAt_r3 : List Cond := [Cond.code yX6_oneIf cX6_oneIf 1 (some .int)]
def wsX6_holdsStandingSeenAt : List Cond := .code yX6_holdsStandingSeenAt cX6_holdsStandingSeenAt 5 (some .int) :: ((wsX6_holdsStandingSeenAt_r1 ++ (wsX6_holdsStandingSeenAt_r2 ++ wsX6_holdsStandingSeenAt_r3)) ++ wsX60 ++ wsJx4a65c0 ++ wsX30 ++ wsX10 ++ wsX50)
def wsX6_keptSeenAt_r1 : List Cond := [Cond.fieldLink RX6 19 "Tureenlist" "gifts" "Ljava/util/ArrayList;", Cond.classLink RX6 171 "Tureenlist$Gift", Cond.methodLink RX6 47 yJx4a65c_size_8abf5, Cond.instanceMethod yJx4a65c_size_8abf5, Cond.selects RJx4a65c yJx4a65c_size_8abf5 yJx4a65c_size_8abf5, Cond.initialized RJx4a65c, Cond.code yJx4a65c_size_8abf5 cJx4a65c_size_8abf5 1 (some .int), Cond.fieldLink RJx4a65c 48 "java/util/ArrayList" "size" "I", Cond.methodLink RX6 122 yJx4a65c_get_915e3, Cond.instanceMethod yJx4a65c_get_915e3, Cond.selects RJx4a65c yJx4a65c_get_915e3 yJx4a65c_get_915e3, Cond.code yJx4a65c_get_915e3 cJx4a65c_get_915e3 2 (some (.object "java/lang/Object")), Cond.methodLink RJx4a65c 118 yJ15_checkIndex_7cf53, Cond.static yJ15_checkIndex_7cf53, Cond.initialized RJ15, Cond.code yJ15_checkIndex_7cf53 cJ15_checkIndex_7cf53 2 (some .int), Cond.methodLink RJ15 105 yJ3_checkIndex_8e157, Cond.static yJ3_checkIndex_8e157, Cond.initialized RJ3, Cond.code yJ3_checkIndex_8e157 cJ3_checkIndex_8e157 3 (some .int), Cond.methodLink RJx4a65c 123 yJx4a65c_elementData_915e3, Cond.instanceMethod yJx4a65c_elementData_915e3, Cond.selects RJx4a65c yJx4a65c_elementData_915e3 yJx4a65c_elementData_915e3, Cond.code yJx4a65c_elementData_915e3 cJx4a65c_elementData_915e3 2 (some (.object "java/lang/Object"))]
def wsX6_keptSeenAt_r2 : List Cond := [Cond.fieldLink RJx4a65c 9 "java/util/ArrayList" "elementData" "[Ljava/lang/Object;", Cond.methodLink RX6 177 yX1_isKept, Cond.instanceMethod yX1_isKept, Cond.selects RX1 yX1_isKept yX1_isKept, Cond.initialized RX1, Cond.code yX1_isKept cX1_isKept 1 (some .boolean), Cond.fieldLink RX1 18 "Tureenlist$Gift" "state" "I", Cond.methodLink RX6 428 ⟨"Tureenlist$Gift", "isSeenAt", "(I)Z"⟩, Cond.sameMethod "Tureenlist$Gift" "Tureenlist$Deed" "isSeenAt" "(I)Z", Cond.selects RX1 ⟨"Tureenlist$Gift", "isSeenAt", "(I)Z"⟩ yX0_isSeenAt, Cond.instanceMethod yX0_isSeenAt, Cond.initialized RX0, Cond.code yX0_isSeenAt cX0_isSeenAt 2 (some .boolean), Cond.fieldLink RX0 24 "Tureenlist$Deed" "seers" "I", Cond.methodLink RX6 235 yX6_oneIf, Cond.static yX6_oneIf, Cond.initialized RX6, Cond.code yX6_oneIf cX6_oneIf 1 (some .int)]
def wsX6_keptSeenAt : List Cond := .code yX6_keptSeenAt cX6_keptSeenAt 5 (some .int) :: ((wsX6_keptSeenAt_r1 ++ wsX6_keptSeenAt_r2) ++ wsX60 ++ wsJx4a65c0 ++ wsX10 ++ wsX30)
def wsX6_takeStock_r1 : List Cond := [Cond.fieldLink RX6 12 "Tureenlist" "wishes" "Ljava/util/ArrayList;", Cond.classLink RX6 56 "Tureenlist$Wish", Cond.fieldLink RX6 337 "Tureenlist$Wish" "stock" "I", Cond.methodLink RX6 47 yJx4a65c_size_8abf5, Cond.instanceMethod yJx4a65c_size_8abf5, Cond.selects RJx4a65c yJx4a65c_size_8abf5 yJx4a65c_size_8abf5, Cond.initialized RJx4a65c, Cond.code yJx4a65c_size_8abf5 cJx4a65c_size_8abf5 1 (some .int), Cond.fieldLink RJx4a65c 48 "java/util/ArrayList" "size" "I", Cond.methodLink RX6 122 yJx4a65c_get_915e3, Cond.instanceMethod yJx4a65c_get_915e3, Cond.selects RJx4a65c yJx4a65c_get_915e3 yJx4a65c_get_915e3, Cond.code yJx4a65c_get_915e3 cJx4a65c_get_915e3 2 (some (.object "java/lang/Object")), Cond.methodLink RJx4a65c 118 yJ15_checkIndex_7cf53, Cond.static yJ15_checkIndex_7cf53, Cond.initialized RJ15, Cond.code yJ15_checkIndex_7cf53 cJ15_checkIndex_7cf53 2 (some .int), Cond.methodLink RJ15 105 yJ3_checkIndex_8e157, Cond.static yJ3_checkIndex_8e157, Cond.initialized RJ3, Cond.code yJ3_checkIndex_8e157 cJ3_checkIndex_8e157 3 (some .int), Cond.methodLink RJx4a65c 123 yJx4a65c_elementData_915e3, Cond.instanceMethod yJx4a65c_elementData_915e3, Cond.selects RJx4a65c yJx4a65c_elementData_915e3 yJx4a65c_elementData_915e3]
def wsX6_takeStock_r2 : List Cond := [Cond.code yJx4a65c_elementData_915e3 cJx4a65c_elementData_915e3 2 (some (.object "java/lang/Object")), Cond.fieldLink RJx4a65c 9 "java/util/ArrayList" "elementData" "[Ljava/lang/Object;", Cond.methodLink RX6 137 yX6_leftAt, Cond.instanceMethod yX6_leftAt, Cond.selects RX6 yX6_leftAt yX6_leftAt, Cond.initialized RX6, Cond.code yX6_leftAt cX6_leftAt 6 (some .int), Cond.fieldLink RX6 78 "Tureenlist$Wish" "forMany" "Z", Cond.fieldLink RX6 98 "Tureenlist$Wish" "struck" "Z", Cond.fieldLink RX6 232 "Tureenlist$Wish" "count" "I", Cond.fieldLink RX6 22 "Tureenlist" "holds" "Ljava/util/ArrayList;", Cond.classLink RX6 143 "Tureenlist$Hold", Cond.fieldLink RX6 434 "Tureenlist$Hold" "of" "LTureenlist$Wish;", Cond.sameField "Tureenlist$Hold" "Tureenlist$Deed" "of" "LTureenlist$Wish;", Cond.fieldLink RX6 145 "Tureenlist" "minute" "I", Cond.methodLink RX6 408 Lib.Math.max.name, Cond.static Lib.Math.max.name, Cond.initialized "java/lang/Math", Cond.code Lib.Math.max.name Lib.Math.max.code 2 (some .int), Cond.methodLink RX6 431 yX6_keptOfSeenAt, Cond.instanceMethod yX6_keptOfSeenAt, Cond.selects RX6 yX6_keptOfSeenAt yX6_keptOfSeenAt, Cond.code yX6_keptOfSeenAt cX6_keptOfSeenAt 6 (some .int), Cond.fieldLink RX6 19 "Tureenlist" "gifts" "Ljava/util/ArrayList;"]
def wsX6_takeStock_r3 : List Cond := [Cond.classLink RX6 171 "Tureenlist$Gift", Cond.fieldLink RX6 185 "Tureenlist$Gift" "of" "LTureenlist$Wish;", Cond.sameField "Tureenlist$Gift" "Tureenlist$Deed" "of" "LTureenlist$Wish;", Cond.methodLink RX6 177 yX1_isKept, Cond.instanceMethod yX1_isKept, Cond.selects RX1 yX1_isKept yX1_isKept, Cond.initialized RX1, Cond.code yX1_isKept cX1_isKept 1 (some .boolean), Cond.fieldLink RX1 18 "Tureenlist$Gift" "state" "I", Cond.methodLink RX6 428 ⟨"Tureenlist$Gift", "isSeenAt", "(I)Z"⟩, Cond.sameMethod "Tureenlist$Gift" "Tureenlist$Deed" "isSeenAt" "(I)Z", Cond.selects RX1 ⟨"Tureenlist$Gift", "isSeenAt", "(I)Z"⟩ yX0_isSeenAt, Cond.instanceMethod yX0_isSeenAt, Cond.initialized RX0, Cond.code yX0_isSeenAt cX0_isSeenAt 2 (some .boolean), Cond.fieldLink RX0 24 "Tureenlist$Deed" "seers" "I", Cond.methodLink RX6 435 yX3_standsAt, Cond.instanceMethod yX3_standsAt, Cond.selects RX3 yX3_standsAt yX3_standsAt, Cond.initialized RX3, Cond.code yX3_standsAt cX3_standsAt 2 (some .boolean), Cond.fieldLink RX3 13 "Tureenlist$Hold" "used" "Z", Cond.fieldLink RX3 17 "Tureenlist$Hold" "of" "LTureenlist$Wish;", Cond.fieldLink RX3 21 "Tureenlist$Wish" "struck" "Z"]
def wsX6_takeStock_r4 : List Cond := [Cond.fieldLink RX3 26 "Tureenlist$Hold" "since" "I", Cond.sameField "Tureenlist$Hold" "Tureenlist$Deed" "since" "I", Cond.fieldLink RX3 7 "Tureenlist$Hold" "minutes" "I", Cond.methodLink RX6 438 ⟨"Tureenlist$Hold", "isSeenAt", "(I)Z"⟩, Cond.sameMethod "Tureenlist$Hold" "Tureenlist$Deed" "isSeenAt" "(I)Z", Cond.selects RX3 ⟨"Tureenlist$Hold", "isSeenAt", "(I)Z"⟩ yX0_isSeenAt]
def wsX6_takeStock : List Cond := .code yX6_takeStock cX6_takeStock 4 none :: ((wsX6_takeStock_r1 ++ (wsX6_takeStock_r2 ++ (wsX6_takeStock_r3 ++ wsX6_takeStock_r4))) ++ wsX60 ++ wsX50 ++ wsJx4a65c0 ++ wsX10 ++ wsX30)
def wsX6_guestsWithoutPart_r1 : List Cond := [Cond.fieldLink RX6 16 "Tureenlist" "guests" "Ljava/util/ArrayList;", Cond.classLink RX6 69 "Tureenlist$Guest", Cond.methodLink RX6 47 yJx4a65c_size_8abf5, Cond.instanceMethod yJx4a65c_size_8abf5, Cond.selects RJx4a65c yJx4a65c_size_8abf5 yJx4a65c_size_8abf5, Cond.initialized RJx4a65c, Cond.code yJx4a65c_size_8abf5 cJx4a65c_size_8abf5 1 (some .int), Cond.fieldLink RJx4a65c 48 "java/util/ArrayList" "size" "I", Cond.methodLink RX6 122 yJx4a65c_get_915e3, Cond.instanceMethod yJx4a65c_get_915e3, Cond.selects RJx4a65c yJx4a65c_get_915e3 yJx4a65c_get_915e3, Cond.code yJx4a65c_get_915e3 cJx4a65c_get_915e3 2 (some (.object "java/lang/Object")), Cond.methodLink RJx4a65c 118 yJ15_checkIndex_7cf53, Cond.static yJ15_checkIndex_7cf53, Cond.initialized RJ15, Cond.code yJ15_checkIndex_7cf53 cJ15_checkIndex_7cf53 2 (some .int), Cond.methodLink RJ15 105 yJ3_checkIndex_8e157, Cond.static yJ3_checkIndex_8e157, Cond.initialized RJ3, Cond.code yJ3_checkIndex_8e157 cJ3_checkIndex_8e157 3 (some .int), Cond.methodLink RJx4a65c 123 yJx4a65c_elementData_915e3, Cond.instanceMethod yJx4a65c_elementData_915e3, Cond.selects RJx4a65c yJx4a65c_elementData_915e3 yJx4a65c_elementData_915e3, Cond.code yJx4a65c_elementData_915e3 cJx4a65c_elementData_915e3 2 (some (.object "java/lang/Object"))]
def wsX6_guestsWithoutPart_r2 : List Cond := [Cond.fieldLink RJx4a65c 9 "java/util/ArrayList" "elementData" "[Ljava/lang/Object;", Cond.methodLink RX6 247 yX6_giftsBy, Cond.instanceMethod yX6_giftsBy, Cond.selects RX6 yX6_giftsBy yX6_giftsBy, Cond.initialized RX6, Cond.code yX6_giftsBy cX6_giftsBy 6 (some .int), Cond.fieldLink RX6 19 "Tureenlist" "gifts" "Ljava/util/ArrayList;", Cond.classLink RX6 171 "Tureenlist$Gift", Cond.fieldLink RX6 297 "Tureenlist$Gift" "state" "I", Cond.fieldLink RX6 181 "Tureenlist$Gift" "by" "LTureenlist$Guest;", Cond.sameField "Tureenlist$Gift" "Tureenlist$Deed" "by" "LTureenlist$Guest;", Cond.methodLink RX6 235 yX6_oneIf, Cond.static yX6_oneIf, Cond.code yX6_oneIf cX6_oneIf 1 (some .int), Cond.methodLink RX6 255 yX6_pledgedBy, Cond.instanceMethod yX6_pledgedBy, Cond.selects RX6 yX6_pledgedBy yX6_pledgedBy, Cond.code yX6_pledgedBy cX6_pledgedBy 4 (some .int), Cond.fieldLink RX6 12 "Tureenlist" "wishes" "Ljava/util/ArrayList;", Cond.classLink RX6 56 "Tureenlist$Wish", Cond.methodLink RX6 324 yX5_pledgedBy, Cond.instanceMethod yX5_pledgedBy, Cond.selects RX5 yX5_pledgedBy yX5_pledgedBy, Cond.initialized RX5]
def wsX6_guestsWithoutPart_r3 : List Cond := [Cond.code yX5_pledgedBy cX5_pledgedBy 5 (some .int), Cond.fieldLink RX5 26 "Tureenlist$Wish" "pledges" "Ljava/util/ArrayList;", Cond.classLink RX5 38 "Tureenlist$Pledge", Cond.fieldLink RX5 43 "Tureenlist$Pledge" "by" "LTureenlist$Guest;", Cond.fieldLink RX5 40 "Tureenlist$Pledge" "pence" "I", Cond.methodLink RX5 30 yJx4a65c_size_8abf5, Cond.methodLink RX5 34 yJx4a65c_get_915e3]
def wsX6_guestsWithoutPart : List Cond := .code yX6_guestsWithoutPart cX6_guestsWithoutPart 4 (some .int) :: ((wsX6_guestsWithoutPart_r1 ++ (wsX6_guestsWithoutPart_r2 ++ wsX6_guestsWithoutPart_r3)) ++ wsX60 ++ wsJx4a65c0 ++ wsX10 ++ wsX30 ++ wsX50 ++ wsX40)
def wsX6_buyersAbove_r1 : List Cond := [Cond.fieldLink RX6 16 "Tureenlist" "guests" "Ljava/util/ArrayList;", Cond.classLink RX6 69 "Tureenlist$Guest", Cond.fieldLink RX6 158 "Tureenlist$Guest" "purse" "I", Cond.methodLink RX6 47 yJx4a65c_size_8abf5, Cond.instanceMethod yJx4a65c_size_8abf5, Cond.selects RJx4a65c yJx4a65c_size_8abf5 yJx4a65c_size_8abf5, Cond.initialized RJx4a65c, Cond.code yJx4a65c_size_8abf5 cJx4a65c_size_8abf5 1 (some .int), Cond.fieldLink RJx4a65c 48 "java/util/ArrayList" "size" "I", Cond.methodLink RX6 122 yJx4a65c_get_915e3, Cond.instanceMethod yJx4a65c_get_915e3, Cond.selects RJx4a65c yJx4a65c_get_915e3 yJx4a65c_get_915e3, Cond.code yJx4a65c_get_915e3 cJx4a65c_get_915e3 2 (some (.object "java/lang/Object")), Cond.methodLink RJx4a65c 118 yJ15_checkIndex_7cf53, Cond.static yJ15_checkIndex_7cf53, Cond.initialized RJ15, Cond.code yJ15_checkIndex_7cf53 cJ15_checkIndex_7cf53 2 (some .int), Cond.methodLink RJ15 105 yJ3_checkIndex_8e157, Cond.static yJ3_checkIndex_8e157, Cond.initialized RJ3, Cond.code yJ3_checkIndex_8e157 cJ3_checkIndex_8e157 3 (some .int), Cond.methodLink RJx4a65c 123 yJx4a65c_elementData_915e3, Cond.instanceMethod yJx4a65c_elementData_915e3, Cond.selects RJx4a65c yJx4a65c_elementData_915e3 yJx4a65c_elementData_915e3]
def wsX6_buyersAbove_r2 : List Cond := [Cond.code yJx4a65c_elementData_915e3 cJx4a65c_elementData_915e3 2 (some (.object "java/lang/Object")), Cond.fieldLink RJx4a65c 9 "java/util/ArrayList" "elementData" "[Ljava/lang/Object;"]
def wsX6_buyersAbove : List Cond := .code yX6_buyersAbove cX6_buyersAbove 5 (some .int) :: ((wsX6_buyersAbove_r1 ++ wsX6_buyersAbove_r2) ++ wsX60 ++ wsX20 ++ wsJx4a65c0)
def wsX6_stockWithin_r1 : List Cond := [Cond.fieldLink RX6 12 "Tureenlist" "wishes" "Ljava/util/ArrayList;", Cond.classLink RX6 56 "Tureenlist$Wish", Cond.fieldLink RX6 88 "Tureenlist$Wish" "cost" "I", Cond.fieldLink RX6 337 "Tureenlist$Wish" "stock" "I", Cond.methodLink RX6 47 yJx4a65c_size_8abf5, Cond.instanceMethod yJx4a65c_size_8abf5, Cond.selects RJx4a65c yJx4a65c_size_8abf5 yJx4a65c_size_8abf5, Cond.initialized RJx4a65c, Cond.code yJx4a65c_size_8abf5 cJx4a65c_size_8abf5 1 (some .int), Cond.fieldLink RJx4a65c 48 "java/util/ArrayList" "size" "I", Cond.methodLink RX6 122 yJx4a65c_get_915e3, Cond.instanceMethod yJx4a65c_get_915e3, Cond.selects RJx4a65c yJx4a65c_get_915e3 yJx4a65c_get_915e3, Cond.code yJx4a65c_get_915e3 cJx4a65c_get_915e3 2 (some (.object "java/lang/Object")), Cond.methodLink RJx4a65c 118 yJ15_checkIndex_7cf53, Cond.static yJ15_checkIndex_7cf53, Cond.initialized RJ15, Cond.code yJ15_checkIndex_7cf53 cJ15_checkIndex_7cf53 2 (some .int), Cond.methodLink RJ15 105 yJ3_checkIndex_8e157, Cond.static yJ3_checkIndex_8e157, Cond.initialized RJ3, Cond.code yJ3_checkIndex_8e157 cJ3_checkIndex_8e157 3 (some .int), Cond.methodLink RJx4a65c 123 yJx4a65c_elementData_915e3, Cond.instanceMethod yJx4a65c_elementData_915e3]
def wsX6_stockWithin_r2 : List Cond := [Cond.selects RJx4a65c yJx4a65c_elementData_915e3 yJx4a65c_elementData_915e3, Cond.code yJx4a65c_elementData_915e3 cJx4a65c_elementData_915e3 2 (some (.object "java/lang/Object")), Cond.fieldLink RJx4a65c 9 "java/util/ArrayList" "elementData" "[Ljava/lang/Object;"]
def wsX6_stockWithin : List Cond := .code yX6_stockWithin cX6_stockWithin 6 (some .int) :: ((wsX6_stockWithin_r1 ++ wsX6_stockWithin_r2) ++ wsX60 ++ wsX50 ++ wsJx4a65c0)
def wsX6_fillBy_r1 : List Cond := [Cond.fieldLink RX6 16 "Tureenlist" "guests" "Ljava/util/ArrayList;", Cond.classLink RX6 69 "Tureenlist$Guest", Cond.fieldLink RX6 158 "Tureenlist$Guest" "purse" "I", Cond.methodLink RX6 209 Lib.Math.min.name, Cond.static Lib.Math.min.name, Cond.initialized "java/lang/Math", Cond.code Lib.Math.min.name Lib.Math.min.code 2 (some .int), Cond.methodLink RX6 111 yJ6_bitCount_0f7a4, Cond.static yJ6_bitCount_0f7a4, Cond.initialized RJ6, Cond.code yJ6_bitCount_0f7a4 cJ6_bitCount_0f7a4 1 (some .int), Cond.constant RJ6 265 (1431655765), Cond.constant RJ6 266 (858993459), Cond.constant RJ6 267 (252645135), Cond.methodLink RX6 47 yJx4a65c_size_8abf5, Cond.instanceMethod yJx4a65c_size_8abf5, Cond.selects RJx4a65c yJx4a65c_size_8abf5 yJx4a65c_size_8abf5, Cond.initialized RJx4a65c, Cond.code yJx4a65c_size_8abf5 cJx4a65c_size_8abf5 1 (some .int), Cond.fieldLink RJx4a65c 48 "java/util/ArrayList" "size" "I", Cond.methodLink RX6 122 yJx4a65c_get_915e3, Cond.instanceMethod yJx4a65c_get_915e3, Cond.selects RJx4a65c yJx4a65c_get_915e3 yJx4a65c_get_915e3, Cond.code yJx4a65c_get_915e3 cJx4a65c_get_915e3 2 (some (.object "java/lang/Object"))]
def wsX6_fillBy_r2 : List Cond := [Cond.methodLink RJx4a65c 118 yJ15_checkIndex_7cf53, Cond.static yJ15_checkIndex_7cf53, Cond.initialized RJ15, Cond.code yJ15_checkIndex_7cf53 cJ15_checkIndex_7cf53 2 (some .int), Cond.methodLink RJ15 105 yJ3_checkIndex_8e157, Cond.static yJ3_checkIndex_8e157, Cond.initialized RJ3, Cond.code yJ3_checkIndex_8e157 cJ3_checkIndex_8e157 3 (some .int), Cond.methodLink RJx4a65c 123 yJx4a65c_elementData_915e3, Cond.instanceMethod yJx4a65c_elementData_915e3, Cond.selects RJx4a65c yJx4a65c_elementData_915e3 yJx4a65c_elementData_915e3, Cond.code yJx4a65c_elementData_915e3 cJx4a65c_elementData_915e3 2 (some (.object "java/lang/Object")), Cond.fieldLink RJx4a65c 9 "java/util/ArrayList" "elementData" "[Ljava/lang/Object;", Cond.methodLink RX6 449 yX6_buyersAbove, Cond.instanceMethod yX6_buyersAbove, Cond.selects RX6 yX6_buyersAbove yX6_buyersAbove, Cond.initialized RX6, Cond.code yX6_buyersAbove cX6_buyersAbove 5 (some .int), Cond.methodLink RX6 452 yX6_stockWithin, Cond.instanceMethod yX6_stockWithin, Cond.selects RX6 yX6_stockWithin yX6_stockWithin, Cond.code yX6_stockWithin cX6_stockWithin 6 (some .int), Cond.fieldLink RX6 12 "Tureenlist" "wishes" "Ljava/util/ArrayList;", Cond.classLink RX6 56 "Tureenlist$Wish"]
def wsX6_fillBy_r3 : List Cond := [Cond.fieldLink RX6 88 "Tureenlist$Wish" "cost" "I", Cond.fieldLink RX6 337 "Tureenlist$Wish" "stock" "I"]
def wsX6_fillBy : List Cond := .code yX6_fillBy cX6_fillBy 6 (some .int) :: ((wsX6_fillBy_r1 ++ (wsX6_fillBy_r2 ++ wsX6_fillBy_r3)) ++ wsX60 ++ wsX20 ++ wsJx4a65c0 ++ wsX50)
def wsX6_allLeftAt_r1 : List Cond := [Cond.fieldLink RX6 12 "Tureenlist" "wishes" "Ljava/util/ArrayList;", Cond.classLink RX6 56 "Tureenlist$Wish", Cond.methodLink RX6 47 yJx4a65c_size_8abf5, Cond.instanceMethod yJx4a65c_size_8abf5, Cond.selects RJx4a65c yJx4a65c_size_8abf5 yJx4a65c_size_8abf5, Cond.initialized RJx4a65c, Cond.code yJx4a65c_size_8abf5 cJx4a65c_size_8abf5 1 (some .int), Cond.fieldLink RJx4a65c 48 "java/util/ArrayList" "size" "I", Cond.methodLink RX6 122 yJx4a65c_get_915e3, Cond.instanceMethod yJx4a65c_get_915e3, Cond.selects RJx4a65c yJx4a65c_get_915e3 yJx4a65c_get_915e3, Cond.code yJx4a65c_get_915e3 cJx4a65c_get_915e3 2 (some (.object "java/lang/Object")), Cond.methodLink RJx4a65c 118 yJ15_checkIndex_7cf53, Cond.static yJ15_checkIndex_7cf53, Cond.initialized RJ15, Cond.code yJ15_checkIndex_7cf53 cJ15_checkIndex_7cf53 2 (some .int), Cond.methodLink RJ15 105 yJ3_checkIndex_8e157, Cond.static yJ3_checkIndex_8e157, Cond.initialized RJ3, Cond.code yJ3_checkIndex_8e157 cJ3_checkIndex_8e157 3 (some .int), Cond.methodLink RJx4a65c 123 yJx4a65c_elementData_915e3, Cond.instanceMethod yJx4a65c_elementData_915e3, Cond.selects RJx4a65c yJx4a65c_elementData_915e3 yJx4a65c_elementData_915e3, Cond.code yJx4a65c_elementData_915e3 cJx4a65c_elementData_915e3 2 (some (.object "java/lang/Object"))]
def wsX6_allLeftAt_r2 : List Cond := [Cond.fieldLink RJx4a65c 9 "java/util/ArrayList" "elementData" "[Ljava/lang/Object;", Cond.methodLink RX6 137 yX6_leftAt, Cond.instanceMethod yX6_leftAt, Cond.selects RX6 yX6_leftAt yX6_leftAt, Cond.initialized RX6, Cond.code yX6_leftAt cX6_leftAt 6 (some .int), Cond.fieldLink RX6 78 "Tureenlist$Wish" "forMany" "Z", Cond.fieldLink RX6 98 "Tureenlist$Wish" "struck" "Z", Cond.fieldLink RX6 232 "Tureenlist$Wish" "count" "I", Cond.fieldLink RX6 22 "Tureenlist" "holds" "Ljava/util/ArrayList;", Cond.classLink RX6 143 "Tureenlist$Hold", Cond.fieldLink RX6 434 "Tureenlist$Hold" "of" "LTureenlist$Wish;", Cond.sameField "Tureenlist$Hold" "Tureenlist$Deed" "of" "LTureenlist$Wish;", Cond.fieldLink RX6 145 "Tureenlist" "minute" "I", Cond.methodLink RX6 408 Lib.Math.max.name, Cond.static Lib.Math.max.name, Cond.initialized "java/lang/Math", Cond.code Lib.Math.max.name Lib.Math.max.code 2 (some .int), Cond.methodLink RX6 431 yX6_keptOfSeenAt, Cond.instanceMethod yX6_keptOfSeenAt, Cond.selects RX6 yX6_keptOfSeenAt yX6_keptOfSeenAt, Cond.code yX6_keptOfSeenAt cX6_keptOfSeenAt 6 (some .int), Cond.fieldLink RX6 19 "Tureenlist" "gifts" "Ljava/util/ArrayList;", Cond.classLink RX6 171 "Tureenlist$Gift"]
def wsX6_allLeftAt_r3 : List Cond := [Cond.fieldLink RX6 185 "Tureenlist$Gift" "of" "LTureenlist$Wish;", Cond.sameField "Tureenlist$Gift" "Tureenlist$Deed" "of" "LTureenlist$Wish;", Cond.methodLink RX6 177 yX1_isKept, Cond.instanceMethod yX1_isKept, Cond.selects RX1 yX1_isKept yX1_isKept, Cond.initialized RX1, Cond.code yX1_isKept cX1_isKept 1 (some .boolean), Cond.fieldLink RX1 18 "Tureenlist$Gift" "state" "I", Cond.methodLink RX6 428 ⟨"Tureenlist$Gift", "isSeenAt", "(I)Z"⟩, Cond.sameMethod "Tureenlist$Gift" "Tureenlist$Deed" "isSeenAt" "(I)Z", Cond.selects RX1 ⟨"Tureenlist$Gift", "isSeenAt", "(I)Z"⟩ yX0_isSeenAt, Cond.instanceMethod yX0_isSeenAt, Cond.initialized RX0, Cond.code yX0_isSeenAt cX0_isSeenAt 2 (some .boolean), Cond.fieldLink RX0 24 "Tureenlist$Deed" "seers" "I", Cond.methodLink RX6 435 yX3_standsAt, Cond.instanceMethod yX3_standsAt, Cond.selects RX3 yX3_standsAt yX3_standsAt, Cond.initialized RX3, Cond.code yX3_standsAt cX3_standsAt 2 (some .boolean), Cond.fieldLink RX3 13 "Tureenlist$Hold" "used" "Z", Cond.fieldLink RX3 17 "Tureenlist$Hold" "of" "LTureenlist$Wish;", Cond.fieldLink RX3 21 "Tureenlist$Wish" "struck" "Z", Cond.fieldLink RX3 26 "Tureenlist$Hold" "since" "I"]
def wsX6_allLeftAt_r4 : List Cond := [Cond.sameField "Tureenlist$Hold" "Tureenlist$Deed" "since" "I", Cond.fieldLink RX3 7 "Tureenlist$Hold" "minutes" "I", Cond.methodLink RX6 438 ⟨"Tureenlist$Hold", "isSeenAt", "(I)Z"⟩, Cond.sameMethod "Tureenlist$Hold" "Tureenlist$Deed" "isSeenAt" "(I)Z", Cond.selects RX3 ⟨"Tureenlist$Hold", "isSeenAt", "(I)Z"⟩ yX0_isSeenAt]
def wsX6_allLeftAt : List Cond := .code yX6_allLeftAt cX6_allLeftAt 4 (some .int) :: ((wsX6_allLeftAt_r1 ++ (wsX6_allLeftAt_r2 ++ (wsX6_allLeftAt_r3 ++ wsX6_allLeftAt_r4))) ++ wsX60 ++ wsJx4a65c0 ++ wsX50 ++ wsX10 ++ wsX30)
def wsX6_ofTill_r1 : List Cond := [Cond.classLink RX6 29 "java/lang/IllegalArgumentException", Cond.initialized "java/lang/IllegalArgumentException", Cond.methodLink RX6 101 yX6_checkTill, Cond.static yX6_checkTill, Cond.initialized RX6, Cond.code yX6_checkTill cX6_checkTill 1 none, Cond.classLink RX6 284 "java/lang/IndexOutOfBoundsException", Cond.initialized "java/lang/IndexOutOfBoundsException", Cond.methodLink RX6 105 yX6_isJoined, Cond.instanceMethod yX6_isJoined, Cond.selects RX6 yX6_isJoined yX6_isJoined, Cond.code yX6_isJoined cX6_isJoined 2 (some .boolean), Cond.fieldLink RX6 25 "Tureenlist" "joined" "I", Cond.methodLink RX6 235 yX6_oneIf, Cond.static yX6_oneIf, Cond.code yX6_oneIf cX6_oneIf 1 (some .int), Cond.methodLink RX6 263 yX6_keptBoughtAt, Cond.instanceMethod yX6_keptBoughtAt, Cond.selects RX6 yX6_keptBoughtAt yX6_keptBoughtAt, Cond.code yX6_keptBoughtAt cX6_keptBoughtAt 5 (some .int), Cond.fieldLink RX6 19 "Tureenlist" "gifts" "Ljava/util/ArrayList;", Cond.classLink RX6 171 "Tureenlist$Gift", Cond.fieldLink RX6 291 "Tureenlist$Gift" "till" "I", Cond.sameField "Tureenlist$Gift" "Tureenlist$Deed" "till" "I"]
def wsX6_ofTill_r2 : List Cond := [Cond.methodLink RX6 47 yJx4a65c_size_8abf5, Cond.instanceMethod yJx4a65c_size_8abf5, Cond.selects RJx4a65c yJx4a65c_size_8abf5 yJx4a65c_size_8abf5, Cond.initialized RJx4a65c, Cond.code yJx4a65c_size_8abf5 cJx4a65c_size_8abf5 1 (some .int), Cond.fieldLink RJx4a65c 48 "java/util/ArrayList" "size" "I", Cond.methodLink RX6 122 yJx4a65c_get_915e3, Cond.instanceMethod yJx4a65c_get_915e3, Cond.selects RJx4a65c yJx4a65c_get_915e3 yJx4a65c_get_915e3, Cond.code yJx4a65c_get_915e3 cJx4a65c_get_915e3 2 (some (.object "java/lang/Object")), Cond.methodLink RJx4a65c 118 yJ15_checkIndex_7cf53, Cond.static yJ15_checkIndex_7cf53, Cond.initialized RJ15, Cond.code yJ15_checkIndex_7cf53 cJ15_checkIndex_7cf53 2 (some .int), Cond.methodLink RJ15 105 yJ3_checkIndex_8e157, Cond.static yJ3_checkIndex_8e157, Cond.initialized RJ3, Cond.code yJ3_checkIndex_8e157 cJ3_checkIndex_8e157 3 (some .int), Cond.methodLink RJx4a65c 123 yJx4a65c_elementData_915e3, Cond.instanceMethod yJx4a65c_elementData_915e3, Cond.selects RJx4a65c yJx4a65c_elementData_915e3 yJx4a65c_elementData_915e3, Cond.code yJx4a65c_elementData_915e3 cJx4a65c_elementData_915e3 2 (some (.object "java/lang/Object")), Cond.fieldLink RJx4a65c 9 "java/util/ArrayList" "elementData" "[Ljava/lang/Object;", Cond.methodLink RX6 177 yX1_isKept]
def wsX6_ofTill_r3 : List Cond := [Cond.instanceMethod yX1_isKept, Cond.selects RX1 yX1_isKept yX1_isKept, Cond.initialized RX1, Cond.code yX1_isKept cX1_isKept 1 (some .boolean), Cond.fieldLink RX1 18 "Tureenlist$Gift" "state" "I", Cond.methodLink RX6 266 yX6_holdsStandingSeenAt, Cond.instanceMethod yX6_holdsStandingSeenAt, Cond.selects RX6 yX6_holdsStandingSeenAt yX6_holdsStandingSeenAt, Cond.code yX6_holdsStandingSeenAt cX6_holdsStandingSeenAt 5 (some .int), Cond.fieldLink RX6 22 "Tureenlist" "holds" "Ljava/util/ArrayList;", Cond.classLink RX6 143 "Tureenlist$Hold", Cond.fieldLink RX6 145 "Tureenlist" "minute" "I", Cond.methodLink RX6 435 yX3_standsAt, Cond.instanceMethod yX3_standsAt, Cond.selects RX3 yX3_standsAt yX3_standsAt, Cond.initialized RX3, Cond.code yX3_standsAt cX3_standsAt 2 (some .boolean), Cond.fieldLink RX3 13 "Tureenlist$Hold" "used" "Z", Cond.fieldLink RX3 17 "Tureenlist$Hold" "of" "LTureenlist$Wish;", Cond.sameField "Tureenlist$Hold" "Tureenlist$Deed" "of" "LTureenlist$Wish;", Cond.fieldLink RX3 21 "Tureenlist$Wish" "struck" "Z", Cond.fieldLink RX3 26 "Tureenlist$Hold" "since" "I", Cond.sameField "Tureenlist$Hold" "Tureenlist$Deed" "since" "I", Cond.fieldLink RX3 7 "Tureenlist$Hold" "minutes" "I"]
def wsX6_ofTill_r4 : List Cond := [Cond.methodLink RX6 438 ⟨"Tureenlist$Hold", "isSeenAt", "(I)Z"⟩, Cond.sameMethod "Tureenlist$Hold" "Tureenlist$Deed" "isSeenAt" "(I)Z", Cond.selects RX3 ⟨"Tureenlist$Hold", "isSeenAt", "(I)Z"⟩ yX0_isSeenAt, Cond.instanceMethod yX0_isSeenAt, Cond.initialized RX0, Cond.code yX0_isSeenAt cX0_isSeenAt 2 (some .boolean), Cond.fieldLink RX0 24 "Tureenlist$Deed" "seers" "I", Cond.methodLink RX6 269 yX6_keptSeenAt, Cond.instanceMethod yX6_keptSeenAt, Cond.selects RX6 yX6_keptSeenAt yX6_keptSeenAt, Cond.code yX6_keptSeenAt cX6_keptSeenAt 5 (some .int), Cond.methodLink RX6 428 ⟨"Tureenlist$Gift", "isSeenAt", "(I)Z"⟩, Cond.sameMethod "Tureenlist$Gift" "Tureenlist$Deed" "isSeenAt" "(I)Z", Cond.selects RX1 ⟨"Tureenlist$Gift", "isSeenAt", "(I)Z"⟩ yX0_isSeenAt, Cond.methodLink RX6 272 yX6_takeStock, Cond.instanceMethod yX6_takeStock, Cond.selects RX6 yX6_takeStock yX6_takeStock, Cond.code yX6_takeStock cX6_takeStock 4 none, Cond.fieldLink RX6 12 "Tureenlist" "wishes" "Ljava/util/ArrayList;", Cond.classLink RX6 56 "Tureenlist$Wish", Cond.fieldLink RX6 337 "Tureenlist$Wish" "stock" "I", Cond.methodLink RX6 137 yX6_leftAt, Cond.instanceMethod yX6_leftAt, Cond.selects RX6 yX6_leftAt yX6_leftAt]
def wsX6_ofTill_r5 : List Cond := [Cond.code yX6_leftAt cX6_leftAt 6 (some .int), Cond.fieldLink RX6 78 "Tureenlist$Wish" "forMany" "Z", Cond.fieldLink RX6 98 "Tureenlist$Wish" "struck" "Z", Cond.fieldLink RX6 232 "Tureenlist$Wish" "count" "I", Cond.fieldLink RX6 434 "Tureenlist$Hold" "of" "LTureenlist$Wish;", Cond.methodLink RX6 408 Lib.Math.max.name, Cond.static Lib.Math.max.name, Cond.initialized "java/lang/Math", Cond.code Lib.Math.max.name Lib.Math.max.code 2 (some .int), Cond.methodLink RX6 431 yX6_keptOfSeenAt, Cond.instanceMethod yX6_keptOfSeenAt, Cond.selects RX6 yX6_keptOfSeenAt yX6_keptOfSeenAt, Cond.code yX6_keptOfSeenAt cX6_keptOfSeenAt 6 (some .int), Cond.fieldLink RX6 185 "Tureenlist$Gift" "of" "LTureenlist$Wish;", Cond.sameField "Tureenlist$Gift" "Tureenlist$Deed" "of" "LTureenlist$Wish;", Cond.methodLink RX6 275 yX6_guestsWithoutPart, Cond.instanceMethod yX6_guestsWithoutPart, Cond.selects RX6 yX6_guestsWithoutPart yX6_guestsWithoutPart, Cond.code yX6_guestsWithoutPart cX6_guestsWithoutPart 4 (some .int), Cond.fieldLink RX6 16 "Tureenlist" "guests" "Ljava/util/ArrayList;", Cond.classLink RX6 69 "Tureenlist$Guest", Cond.methodLink RX6 247 yX6_giftsBy, Cond.instanceMethod yX6_giftsBy, Cond.selects RX6 yX6_giftsBy yX6_giftsBy]
def wsX6_ofTill_r6 : List Cond := [Cond.code yX6_giftsBy cX6_giftsBy 6 (some .int), Cond.fieldLink RX6 297 "Tureenlist$Gift" "state" "I", Cond.fieldLink RX6 181 "Tureenlist$Gift" "by" "LTureenlist$Guest;", Cond.sameField "Tureenlist$Gift" "Tureenlist$Deed" "by" "LTureenlist$Guest;", Cond.methodLink RX6 255 yX6_pledgedBy, Cond.instanceMethod yX6_pledgedBy, Cond.selects RX6 yX6_pledgedBy yX6_pledgedBy, Cond.code yX6_pledgedBy cX6_pledgedBy 4 (some .int), Cond.methodLink RX6 324 yX5_pledgedBy, Cond.instanceMethod yX5_pledgedBy, Cond.selects RX5 yX5_pledgedBy yX5_pledgedBy, Cond.initialized RX5, Cond.code yX5_pledgedBy cX5_pledgedBy 5 (some .int), Cond.fieldLink RX5 26 "Tureenlist$Wish" "pledges" "Ljava/util/ArrayList;", Cond.classLink RX5 38 "Tureenlist$Pledge", Cond.fieldLink RX5 43 "Tureenlist$Pledge" "by" "LTureenlist$Guest;", Cond.fieldLink RX5 40 "Tureenlist$Pledge" "pence" "I", Cond.methodLink RX5 30 yJx4a65c_size_8abf5, Cond.methodLink RX5 34 yJx4a65c_get_915e3, Cond.methodLink RX6 278 yX6_fillBy, Cond.instanceMethod yX6_fillBy, Cond.selects RX6 yX6_fillBy yX6_fillBy, Cond.code yX6_fillBy cX6_fillBy 6 (some .int), Cond.fieldLink RX6 158 "Tureenlist$Guest" "purse" "I"]
def wsX6_ofTill_r7 : List Cond := [Cond.methodLink RX6 209 Lib.Math.min.name, Cond.static Lib.Math.min.name, Cond.code Lib.Math.min.name Lib.Math.min.code 2 (some .int), Cond.methodLink RX6 111 yJ6_bitCount_0f7a4, Cond.static yJ6_bitCount_0f7a4, Cond.initialized RJ6, Cond.code yJ6_bitCount_0f7a4 cJ6_bitCount_0f7a4 1 (some .int), Cond.constant RJ6 265 (1431655765), Cond.constant RJ6 266 (858993459), Cond.constant RJ6 267 (252645135), Cond.methodLink RX6 449 yX6_buyersAbove, Cond.instanceMethod yX6_buyersAbove, Cond.selects RX6 yX6_buyersAbove yX6_buyersAbove, Cond.code yX6_buyersAbove cX6_buyersAbove 5 (some .int), Cond.methodLink RX6 452 yX6_stockWithin, Cond.instanceMethod yX6_stockWithin, Cond.selects RX6 yX6_stockWithin yX6_stockWithin, Cond.code yX6_stockWithin cX6_stockWithin 6 (some .int), Cond.fieldLink RX6 88 "Tureenlist$Wish" "cost" "I", Cond.methodLink RX6 281 yX6_allLeftAt, Cond.instanceMethod yX6_allLeftAt, Cond.selects RX6 yX6_allLeftAt yX6_allLeftAt, Cond.code yX6_allLeftAt cX6_allLeftAt 4 (some .int)]
def wsX6_ofTill : List Cond := .code yX6_ofTill cX6_ofTill 3 (some .int) :: ((wsX6_ofTill_r1 ++ (wsX6_ofTill_r2 ++ (wsX6_ofTill_r3 ++ (wsX6_ofTill_r4 ++ (wsX6_ofTill_r5 ++ (wsX6_ofTill_r6 ++ wsX6_ofTill_r7)))))) ++ wsX60 ++ wsX10 ++ wsX30 ++ wsJx4a65c0 ++ wsX50 ++ wsX40 ++ wsX20 ++ (vx_atS RX6 33 "java/lang/IllegalArgumentException" ["java/lang/RuntimeException", "java/lang/Exception"]).filter goodWord ++ (vx_atS RX6 286 "java/lang/IndexOutOfBoundsException" ["java/lang/RuntimeException", "java/lang/Exception"]).filter goodWord)
def wsX6_ofGift_r1 : List Cond := [Cond.classLink RX6 284 "java/lang/IndexOutOfBoundsException", Cond.initialized "java/lang/IndexOutOfBoundsException", Cond.classLink RX6 29 "java/lang/IllegalArgumentException", Cond.initialized "java/lang/IllegalArgumentException", Cond.fieldLink RX6 19 "Tureenlist" "gifts" "Ljava/util/ArrayList;", Cond.classLink RX6 171 "Tureenlist$Gift", Cond.fieldLink RX6 185 "Tureenlist$Gift" "of" "LTureenlist$Wish;", Cond.sameField "Tureenlist$Gift" "Tureenlist$Deed" "of" "LTureenlist$Wish;", Cond.fieldLink RX6 287 "Tureenlist$Wish" "number" "I", Cond.fieldLink RX6 181 "Tureenlist$Gift" "by" "LTureenlist$Guest;", Cond.sameField "Tureenlist$Gift" "Tureenlist$Deed" "by" "LTureenlist$Guest;", Cond.fieldLink RX6 290 "Tureenlist$Guest" "number" "I", Cond.fieldLink RX6 291 "Tureenlist$Gift" "till" "I", Cond.sameField "Tureenlist$Gift" "Tureenlist$Deed" "till" "I", Cond.fieldLink RX6 189 "Tureenlist$Gift" "since" "I", Cond.sameField "Tureenlist$Gift" "Tureenlist$Deed" "since" "I", Cond.fieldLink RX6 294 "Tureenlist$Gift" "paid" "I", Cond.fieldLink RX6 297 "Tureenlist$Gift" "state" "I", Cond.methodLink RX6 47 yJx4a65c_size_8abf5, Cond.instanceMethod yJx4a65c_size_8abf5, Cond.selects RJx4a65c yJx4a65c_size_8abf5 yJx4a65c_size_8abf5, Cond.initialized RJx4a65c, Cond.code yJx4a65c_size_8abf5 cJx4a65c_size_8abf5 1 (some .int), Cond.fieldLink RJx4a65c 48 "java/util/ArrayList" "size" "I"]
def wsX6_ofGift_r2 : List Cond := [Cond.methodLink RX6 122 yJx4a65c_get_915e3, Cond.instanceMethod yJx4a65c_get_915e3, Cond.selects RJx4a65c yJx4a65c_get_915e3 yJx4a65c_get_915e3, Cond.code yJx4a65c_get_915e3 cJx4a65c_get_915e3 2 (some (.object "java/lang/Object")), Cond.methodLink RJx4a65c 118 yJ15_checkIndex_7cf53, Cond.static yJ15_checkIndex_7cf53, Cond.initialized RJ15, Cond.code yJ15_checkIndex_7cf53 cJ15_checkIndex_7cf53 2 (some .int), Cond.methodLink RJ15 105 yJ3_checkIndex_8e157, Cond.static yJ3_checkIndex_8e157, Cond.initialized RJ3, Cond.code yJ3_checkIndex_8e157 cJ3_checkIndex_8e157 3 (some .int), Cond.methodLink RJx4a65c 123 yJx4a65c_elementData_915e3, Cond.instanceMethod yJx4a65c_elementData_915e3, Cond.selects RJx4a65c yJx4a65c_elementData_915e3 yJx4a65c_elementData_915e3, Cond.code yJx4a65c_elementData_915e3 cJx4a65c_elementData_915e3 2 (some (.object "java/lang/Object")), Cond.fieldLink RJx4a65c 9 "java/util/ArrayList" "elementData" "[Ljava/lang/Object;"]
def wsX6_ofGift : List Cond := .code yX6_ofGift cX6_ofGift 4 (some .int) :: ((wsX6_ofGift_r1 ++ wsX6_ofGift_r2) ++ wsX60 ++ wsX10 ++ wsX30 ++ wsX50 ++ wsX20 ++ wsJx4a65c0 ++ (vx_atS RX6 286 "java/lang/IndexOutOfBoundsException" ["java/lang/RuntimeException", "java/lang/Exception"]).filter goodWord ++ (vx_atS RX6 33 "java/lang/IllegalArgumentException" ["java/lang/RuntimeException", "java/lang/Exception"]).filter goodWord)
def wsX6_giftsNow_r1 : List Cond := [Cond.fieldLink RX6 19 "Tureenlist" "gifts" "Ljava/util/ArrayList;", Cond.classLink RX6 171 "Tureenlist$Gift", Cond.fieldLink RX6 297 "Tureenlist$Gift" "state" "I", Cond.methodLink RX6 47 yJx4a65c_size_8abf5, Cond.instanceMethod yJx4a65c_size_8abf5, Cond.selects RJx4a65c yJx4a65c_size_8abf5 yJx4a65c_size_8abf5, Cond.initialized RJx4a65c, Cond.code yJx4a65c_size_8abf5 cJx4a65c_size_8abf5 1 (some .int), Cond.fieldLink RJx4a65c 48 "java/util/ArrayList" "size" "I", Cond.methodLink RX6 122 yJx4a65c_get_915e3, Cond.instanceMethod yJx4a65c_get_915e3, Cond.selects RJx4a65c yJx4a65c_get_915e3 yJx4a65c_get_915e3, Cond.code yJx4a65c_get_915e3 cJx4a65c_get_915e3 2 (some (.object "java/lang/Object")), Cond.methodLink RJx4a65c 118 yJ15_checkIndex_7cf53, Cond.static yJ15_checkIndex_7cf53, Cond.initialized RJ15, Cond.code yJ15_checkIndex_7cf53 cJ15_checkIndex_7cf53 2 (some .int), Cond.methodLink RJ15 105 yJ3_checkIndex_8e157, Cond.static yJ3_checkIndex_8e157, Cond.initialized RJ3, Cond.code yJ3_checkIndex_8e157 cJ3_checkIndex_8e157 3 (some .int), Cond.methodLink RJx4a65c 123 yJx4a65c_elementData_915e3, Cond.instanceMethod yJx4a65c_elementData_915e3, Cond.selects RJx4a65c yJx4a65c_elementData_915e3 yJx4a65c_elementData_915e3]
def wsX6_giftsNow_r2 : List Cond := [Cond.code yJx4a65c_elementData_915e3 cJx4a65c_elementData_915e3 2 (some (.object "java/lang/Object")), Cond.fieldLink RJx4a65c 9 "java/util/ArrayList" "elementData" "[Ljava/lang/Object;", Cond.methodLink RX6 235 yX6_oneIf, Cond.static yX6_oneIf, Cond.initialized RX6, Cond.code yX6_oneIf cX6_oneIf 1 (some .int)]
def wsX6_giftsNow : List Cond := .code yX6_giftsNow cX6_giftsNow 4 (some .int) :: ((wsX6_giftsNow_r1 ++ wsX6_giftsNow_r2) ++ wsX60 ++ wsX10 ++ wsJx4a65c0)
def wsX6_shop_r1 : List Cond := [Cond.classLink RX6 29 "java/lang/IllegalArgumentException", Cond.initialized "java/lang/IllegalArgumentException", Cond.fieldLink RX6 145 "Tureenlist" "minute" "I", Cond.fieldLink RX6 12 "Tureenlist" "wishes" "Ljava/util/ArrayList;", Cond.fieldLink RX6 16 "Tureenlist" "guests" "Ljava/util/ArrayList;", Cond.fieldLink RX6 19 "Tureenlist" "gifts" "Ljava/util/ArrayList;", Cond.fieldLink RX6 303 "Tureenlist" "paidEver" "I", Cond.fieldLink RX6 306 "Tureenlist" "wentBackEver" "I", Cond.fieldLink RX6 22 "Tureenlist" "holds" "Ljava/util/ArrayList;", Cond.fieldLink RX6 229 "Tureenlist" "calledOff" "Z", Cond.methodLink RX6 47 yJx4a65c_size_8abf5, Cond.instanceMethod yJx4a65c_size_8abf5, Cond.selects RJx4a65c yJx4a65c_size_8abf5 yJx4a65c_size_8abf5, Cond.initialized RJx4a65c, Cond.code yJx4a65c_size_8abf5 cJx4a65c_size_8abf5 1 (some .int), Cond.fieldLink RJx4a65c 48 "java/util/ArrayList" "size" "I", Cond.methodLink RX6 300 yX6_giftsNow, Cond.instanceMethod yX6_giftsNow, Cond.selects RX6 yX6_giftsNow yX6_giftsNow, Cond.initialized RX6, Cond.code yX6_giftsNow cX6_giftsNow 4 (some .int), Cond.classLink RX6 171 "Tureenlist$Gift", Cond.fieldLink RX6 297 "Tureenlist$Gift" "state" "I", Cond.methodLink RX6 122 yJx4a65c_get_915e3]
def wsX6_shop_r2 : List Cond := [Cond.instanceMethod yJx4a65c_get_915e3, Cond.selects RJx4a65c yJx4a65c_get_915e3 yJx4a65c_get_915e3, Cond.code yJx4a65c_get_915e3 cJx4a65c_get_915e3 2 (some (.object "java/lang/Object")), Cond.methodLink RJx4a65c 118 yJ15_checkIndex_7cf53, Cond.static yJ15_checkIndex_7cf53, Cond.initialized RJ15, Cond.code yJ15_checkIndex_7cf53 cJ15_checkIndex_7cf53 2 (some .int), Cond.methodLink RJ15 105 yJ3_checkIndex_8e157, Cond.static yJ3_checkIndex_8e157, Cond.initialized RJ3, Cond.code yJ3_checkIndex_8e157 cJ3_checkIndex_8e157 3 (some .int), Cond.methodLink RJx4a65c 123 yJx4a65c_elementData_915e3, Cond.instanceMethod yJx4a65c_elementData_915e3, Cond.selects RJx4a65c yJx4a65c_elementData_915e3 yJx4a65c_elementData_915e3, Cond.code yJx4a65c_elementData_915e3 cJx4a65c_elementData_915e3 2 (some (.object "java/lang/Object")), Cond.fieldLink RJx4a65c 9 "java/util/ArrayList" "elementData" "[Ljava/lang/Object;", Cond.methodLink RX6 235 yX6_oneIf, Cond.static yX6_oneIf, Cond.code yX6_oneIf cX6_oneIf 1 (some .int), Cond.methodLink RX6 226 yX6_holdsStanding, Cond.instanceMethod yX6_holdsStanding, Cond.selects RX6 yX6_holdsStanding yX6_holdsStanding, Cond.code yX6_holdsStanding cX6_holdsStanding 3 (some .int), Cond.classLink RX6 143 "Tureenlist$Hold"]
def wsX6_shop_r3 : List Cond := [Cond.methodLink RX6 435 yX3_standsAt, Cond.instanceMethod yX3_standsAt, Cond.selects RX3 yX3_standsAt yX3_standsAt, Cond.initialized RX3, Cond.code yX3_standsAt cX3_standsAt 2 (some .boolean), Cond.fieldLink RX3 13 "Tureenlist$Hold" "used" "Z", Cond.fieldLink RX3 17 "Tureenlist$Hold" "of" "LTureenlist$Wish;", Cond.sameField "Tureenlist$Hold" "Tureenlist$Deed" "of" "LTureenlist$Wish;", Cond.fieldLink RX3 21 "Tureenlist$Wish" "struck" "Z", Cond.fieldLink RX3 26 "Tureenlist$Hold" "since" "I", Cond.sameField "Tureenlist$Hold" "Tureenlist$Deed" "since" "I", Cond.fieldLink RX3 7 "Tureenlist$Hold" "minutes" "I"]
def wsX6_shop : List Cond := .code yX6_shop cX6_shop 2 (some .int) :: ((wsX6_shop_r1 ++ (wsX6_shop_r2 ++ wsX6_shop_r3)) ++ wsX60 ++ wsJx4a65c0 ++ wsX10 ++ wsX30 ++ wsX50 ++ (vx_atS RX6 33 "java/lang/IllegalArgumentException" ["java/lang/RuntimeException", "java/lang/Exception"]).filter goodWord)
def wsX6_wouldTake_r1 : List Cond := [Cond.fieldLink RX6 12 "Tureenlist" "wishes" "Ljava/util/ArrayList;", Cond.classLink RX6 56 "Tureenlist$Wish", Cond.methodLink RX6 101 yX6_checkTill, Cond.static yX6_checkTill, Cond.initialized RX6, Cond.code yX6_checkTill cX6_checkTill 1 none, Cond.classLink RX6 284 "java/lang/IndexOutOfBoundsException", Cond.initialized "java/lang/IndexOutOfBoundsException", Cond.methodLink RX6 105 yX6_isJoined, Cond.instanceMethod yX6_isJoined, Cond.selects RX6 yX6_isJoined yX6_isJoined, Cond.code yX6_isJoined cX6_isJoined 2 (some .boolean), Cond.fieldLink RX6 25 "Tureenlist" "joined" "I", Cond.methodLink RX6 47 yJx4a65c_size_8abf5, Cond.instanceMethod yJx4a65c_size_8abf5, Cond.selects RJx4a65c yJx4a65c_size_8abf5 yJx4a65c_size_8abf5, Cond.initialized RJx4a65c, Cond.code yJx4a65c_size_8abf5 cJx4a65c_size_8abf5 1 (some .int), Cond.fieldLink RJx4a65c 48 "java/util/ArrayList" "size" "I", Cond.methodLink RX6 122 yJx4a65c_get_915e3, Cond.instanceMethod yJx4a65c_get_915e3, Cond.selects RJx4a65c yJx4a65c_get_915e3 yJx4a65c_get_915e3, Cond.code yJx4a65c_get_915e3 cJx4a65c_get_915e3 2 (some (.object "java/lang/Object")), Cond.methodLink RJx4a65c 118 yJ15_checkIndex_7cf53]
def wsX6_wouldTake_r2 : List Cond := [Cond.static yJ15_checkIndex_7cf53, Cond.initialized RJ15, Cond.code yJ15_checkIndex_7cf53 cJ15_checkIndex_7cf53 2 (some .int), Cond.methodLink RJ15 105 yJ3_checkIndex_8e157, Cond.static yJ3_checkIndex_8e157, Cond.initialized RJ3, Cond.code yJ3_checkIndex_8e157 cJ3_checkIndex_8e157 3 (some .int), Cond.methodLink RJx4a65c 123 yJx4a65c_elementData_915e3, Cond.instanceMethod yJx4a65c_elementData_915e3, Cond.selects RJx4a65c yJx4a65c_elementData_915e3 yJx4a65c_elementData_915e3, Cond.code yJx4a65c_elementData_915e3 cJx4a65c_elementData_915e3 2 (some (.object "java/lang/Object")), Cond.fieldLink RJx4a65c 9 "java/util/ArrayList" "elementData" "[Ljava/lang/Object;", Cond.methodLink RX6 334 yX6_tooManyWith, Cond.instanceMethod yX6_tooManyWith, Cond.selects RX6 yX6_tooManyWith yX6_tooManyWith, Cond.code yX6_tooManyWith cX6_tooManyWith 6 (some .int), Cond.fieldLink RX6 19 "Tureenlist" "gifts" "Ljava/util/ArrayList;", Cond.classLink RX6 171 "Tureenlist$Gift", Cond.fieldLink RX6 185 "Tureenlist$Gift" "of" "LTureenlist$Wish;", Cond.sameField "Tureenlist$Gift" "Tureenlist$Deed" "of" "LTureenlist$Wish;", Cond.fieldLink RX6 291 "Tureenlist$Gift" "till" "I", Cond.sameField "Tureenlist$Gift" "Tureenlist$Deed" "till" "I", Cond.fieldLink RX6 232 "Tureenlist$Wish" "count" "I", Cond.methodLink RX6 408 Lib.Math.max.name]
def wsX6_wouldTake_r3 : List Cond := [Cond.static Lib.Math.max.name, Cond.initialized "java/lang/Math", Cond.code Lib.Math.max.name Lib.Math.max.code 2 (some .int), Cond.methodLink RX6 177 yX1_isKept, Cond.instanceMethod yX1_isKept, Cond.selects RX1 yX1_isKept yX1_isKept, Cond.initialized RX1, Cond.code yX1_isKept cX1_isKept 1 (some .boolean), Cond.fieldLink RX1 18 "Tureenlist$Gift" "state" "I", Cond.methodLink RX6 418 ⟨"Tureenlist$Gift", "isOpen", "()Z"⟩, Cond.sameMethod "Tureenlist$Gift" "Tureenlist$Deed" "isOpen" "()Z", Cond.selects RX1 ⟨"Tureenlist$Gift", "isOpen", "()Z"⟩ yX0_isOpen, Cond.instanceMethod yX0_isOpen, Cond.initialized RX0, Cond.code yX0_isOpen cX0_isOpen 1 (some .boolean), Cond.fieldLink RX0 27 "Tureenlist$Deed" "open" "Z"]
def wsX6_wouldTake : List Cond := .code yX6_wouldTake cX6_wouldTake 4 (some .int) :: ((wsX6_wouldTake_r1 ++ (wsX6_wouldTake_r2 ++ wsX6_wouldTake_r3)) ++ wsX60 ++ wsJx4a65c0 ++ wsX10 ++ wsX30 ++ wsX50 ++ (vx_atS RX6 286 "java/lang/IndexOutOfBoundsException" ["java/lang/RuntimeException", "java/lang/Exception"]).filter goodWord)
def wsX6_hint_r1 : List Cond := [Cond.fieldLink RX6 290 "Tureenlist$Guest" "number" "I", Cond.fieldLink RX6 12 "Tureenlist" "wishes" "Ljava/util/ArrayList;", Cond.classLink RX6 56 "Tureenlist$Wish", Cond.fieldLink RX6 337 "Tureenlist$Wish" "stock" "I", Cond.fieldLink RX6 88 "Tureenlist$Wish" "cost" "I", Cond.fieldLink RX6 158 "Tureenlist$Guest" "purse" "I", Cond.methodLink RX6 129 yX6_guestNumbered, Cond.instanceMethod yX6_guestNumbered, Cond.selects RX6 yX6_guestNumbered yX6_guestNumbered, Cond.initialized RX6, Cond.code yX6_guestNumbered cX6_guestNumbered 2 (some (.object "Tureenlist$Guest")), Cond.classLink RX6 284 "java/lang/IndexOutOfBoundsException", Cond.initialized "java/lang/IndexOutOfBoundsException", Cond.fieldLink RX6 16 "Tureenlist" "guests" "Ljava/util/ArrayList;", Cond.classLink RX6 69 "Tureenlist$Guest", Cond.methodLink RX6 47 yJx4a65c_size_8abf5, Cond.instanceMethod yJx4a65c_size_8abf5, Cond.selects RJx4a65c yJx4a65c_size_8abf5 yJx4a65c_size_8abf5, Cond.initialized RJx4a65c, Cond.code yJx4a65c_size_8abf5 cJx4a65c_size_8abf5 1 (some .int), Cond.fieldLink RJx4a65c 48 "java/util/ArrayList" "size" "I", Cond.methodLink RX6 122 yJx4a65c_get_915e3, Cond.instanceMethod yJx4a65c_get_915e3, Cond.selects RJx4a65c yJx4a65c_get_915e3 yJx4a65c_get_915e3]
def wsX6_hint_r2 : List Cond := [Cond.code yJx4a65c_get_915e3 cJx4a65c_get_915e3 2 (some (.object "java/lang/Object")), Cond.methodLink RJx4a65c 118 yJ15_checkIndex_7cf53, Cond.static yJ15_checkIndex_7cf53, Cond.initialized RJ15, Cond.code yJ15_checkIndex_7cf53 cJ15_checkIndex_7cf53 2 (some .int), Cond.methodLink RJ15 105 yJ3_checkIndex_8e157, Cond.static yJ3_checkIndex_8e157, Cond.initialized RJ3, Cond.code yJ3_checkIndex_8e157 cJ3_checkIndex_8e157 3 (some .int), Cond.methodLink RJx4a65c 123 yJx4a65c_elementData_915e3, Cond.instanceMethod yJx4a65c_elementData_915e3, Cond.selects RJx4a65c yJx4a65c_elementData_915e3 yJx4a65c_elementData_915e3, Cond.code yJx4a65c_elementData_915e3 cJx4a65c_elementData_915e3 2 (some (.object "java/lang/Object")), Cond.fieldLink RJx4a65c 9 "java/util/ArrayList" "elementData" "[Ljava/lang/Object;", Cond.methodLink RX6 101 yX6_checkTill, Cond.static yX6_checkTill, Cond.code yX6_checkTill cX6_checkTill 1 none, Cond.methodLink RX6 272 yX6_takeStock, Cond.instanceMethod yX6_takeStock, Cond.selects RX6 yX6_takeStock yX6_takeStock, Cond.code yX6_takeStock cX6_takeStock 4 none, Cond.methodLink RX6 137 yX6_leftAt, Cond.instanceMethod yX6_leftAt, Cond.selects RX6 yX6_leftAt yX6_leftAt]
def wsX6_hint_r3 : List Cond := [Cond.code yX6_leftAt cX6_leftAt 6 (some .int), Cond.fieldLink RX6 78 "Tureenlist$Wish" "forMany" "Z", Cond.fieldLink RX6 98 "Tureenlist$Wish" "struck" "Z", Cond.fieldLink RX6 232 "Tureenlist$Wish" "count" "I", Cond.fieldLink RX6 22 "Tureenlist" "holds" "Ljava/util/ArrayList;", Cond.classLink RX6 143 "Tureenlist$Hold", Cond.fieldLink RX6 434 "Tureenlist$Hold" "of" "LTureenlist$Wish;", Cond.sameField "Tureenlist$Hold" "Tureenlist$Deed" "of" "LTureenlist$Wish;", Cond.fieldLink RX6 145 "Tureenlist" "minute" "I", Cond.methodLink RX6 408 Lib.Math.max.name, Cond.static Lib.Math.max.name, Cond.initialized "java/lang/Math", Cond.code Lib.Math.max.name Lib.Math.max.code 2 (some .int), Cond.methodLink RX6 431 yX6_keptOfSeenAt, Cond.instanceMethod yX6_keptOfSeenAt, Cond.selects RX6 yX6_keptOfSeenAt yX6_keptOfSeenAt, Cond.code yX6_keptOfSeenAt cX6_keptOfSeenAt 6 (some .int), Cond.fieldLink RX6 19 "Tureenlist" "gifts" "Ljava/util/ArrayList;", Cond.classLink RX6 171 "Tureenlist$Gift", Cond.fieldLink RX6 185 "Tureenlist$Gift" "of" "LTureenlist$Wish;", Cond.sameField "Tureenlist$Gift" "Tureenlist$Deed" "of" "LTureenlist$Wish;", Cond.methodLink RX6 177 yX1_isKept, Cond.instanceMethod yX1_isKept, Cond.selects RX1 yX1_isKept yX1_isKept]
def wsX6_hint_r4 : List Cond := [Cond.initialized RX1, Cond.code yX1_isKept cX1_isKept 1 (some .boolean), Cond.fieldLink RX1 18 "Tureenlist$Gift" "state" "I", Cond.methodLink RX6 428 ⟨"Tureenlist$Gift", "isSeenAt", "(I)Z"⟩, Cond.sameMethod "Tureenlist$Gift" "Tureenlist$Deed" "isSeenAt" "(I)Z", Cond.selects RX1 ⟨"Tureenlist$Gift", "isSeenAt", "(I)Z"⟩ yX0_isSeenAt, Cond.instanceMethod yX0_isSeenAt, Cond.initialized RX0, Cond.code yX0_isSeenAt cX0_isSeenAt 2 (some .boolean), Cond.fieldLink RX0 24 "Tureenlist$Deed" "seers" "I", Cond.methodLink RX6 435 yX3_standsAt, Cond.instanceMethod yX3_standsAt, Cond.selects RX3 yX3_standsAt yX3_standsAt, Cond.initialized RX3, Cond.code yX3_standsAt cX3_standsAt 2 (some .boolean), Cond.fieldLink RX3 13 "Tureenlist$Hold" "used" "Z", Cond.fieldLink RX3 17 "Tureenlist$Hold" "of" "LTureenlist$Wish;", Cond.fieldLink RX3 21 "Tureenlist$Wish" "struck" "Z", Cond.fieldLink RX3 26 "Tureenlist$Hold" "since" "I", Cond.sameField "Tureenlist$Hold" "Tureenlist$Deed" "since" "I", Cond.fieldLink RX3 7 "Tureenlist$Hold" "minutes" "I", Cond.methodLink RX6 438 ⟨"Tureenlist$Hold", "isSeenAt", "(I)Z"⟩, Cond.sameMethod "Tureenlist$Hold" "Tureenlist$Deed" "isSeenAt" "(I)Z", Cond.selects RX3 ⟨"Tureenlist$Hold", "isSeenAt", "(I)Z"⟩ yX0_isSeenAt]
def wsX6_hint_r5 : List Cond := [Cond.methodLink RX6 275 yX6_guestsWithoutPart, Cond.instanceMethod yX6_guestsWithoutPart, Cond.selects RX6 yX6_guestsWithoutPart yX6_guestsWithoutPart, Cond.code yX6_guestsWithoutPart cX6_guestsWithoutPart 4 (some .int), Cond.methodLink RX6 247 yX6_giftsBy, Cond.instanceMethod yX6_giftsBy, Cond.selects RX6 yX6_giftsBy yX6_giftsBy, Cond.code yX6_giftsBy cX6_giftsBy 6 (some .int), Cond.fieldLink RX6 297 "Tureenlist$Gift" "state" "I", Cond.fieldLink RX6 181 "Tureenlist$Gift" "by" "LTureenlist$Guest;", Cond.sameField "Tureenlist$Gift" "Tureenlist$Deed" "by" "LTureenlist$Guest;", Cond.methodLink RX6 235 yX6_oneIf, Cond.static yX6_oneIf, Cond.code yX6_oneIf cX6_oneIf 1 (some .int), Cond.methodLink RX6 255 yX6_pledgedBy, Cond.instanceMethod yX6_pledgedBy, Cond.selects RX6 yX6_pledgedBy yX6_pledgedBy, Cond.code yX6_pledgedBy cX6_pledgedBy 4 (some .int), Cond.methodLink RX6 324 yX5_pledgedBy, Cond.instanceMethod yX5_pledgedBy, Cond.selects RX5 yX5_pledgedBy yX5_pledgedBy, Cond.initialized RX5, Cond.code yX5_pledgedBy cX5_pledgedBy 5 (some .int), Cond.fieldLink RX5 26 "Tureenlist$Wish" "pledges" "Ljava/util/ArrayList;"]
def wsX6_hint_r6 : List Cond := [Cond.classLink RX5 38 "Tureenlist$Pledge", Cond.fieldLink RX5 43 "Tureenlist$Pledge" "by" "LTureenlist$Guest;", Cond.fieldLink RX5 40 "Tureenlist$Pledge" "pence" "I", Cond.methodLink RX5 30 yJx4a65c_size_8abf5, Cond.methodLink RX5 34 yJx4a65c_get_915e3, Cond.methodLink RX6 278 yX6_fillBy, Cond.instanceMethod yX6_fillBy, Cond.selects RX6 yX6_fillBy yX6_fillBy, Cond.code yX6_fillBy cX6_fillBy 6 (some .int), Cond.methodLink RX6 209 Lib.Math.min.name, Cond.static Lib.Math.min.name, Cond.code Lib.Math.min.name Lib.Math.min.code 2 (some .int), Cond.methodLink RX6 111 yJ6_bitCount_0f7a4, Cond.static yJ6_bitCount_0f7a4, Cond.initialized RJ6, Cond.code yJ6_bitCount_0f7a4 cJ6_bitCount_0f7a4 1 (some .int), Cond.constant RJ6 265 (1431655765), Cond.constant RJ6 266 (858993459), Cond.constant RJ6 267 (252645135), Cond.methodLink RX6 449 yX6_buyersAbove, Cond.instanceMethod yX6_buyersAbove, Cond.selects RX6 yX6_buyersAbove yX6_buyersAbove, Cond.code yX6_buyersAbove cX6_buyersAbove 5 (some .int), Cond.methodLink RX6 452 yX6_stockWithin]
def wsX6_hint_r7 : List Cond := [Cond.instanceMethod yX6_stockWithin, Cond.selects RX6 yX6_stockWithin yX6_stockWithin, Cond.code yX6_stockWithin cX6_stockWithin 6 (some .int)]
def wsX6_hint : List Cond := .code yX6_hint cX6_hint 12 (some .int) :: ((wsX6_hint_r1 ++ (wsX6_hint_r2 ++ (wsX6_hint_r3 ++ (wsX6_hint_r4 ++ (wsX6_hint_r5 ++ (wsX6_hint_r6 ++ wsX6_hint_r7)))))) ++ wsX20 ++ wsX60 ++ wsX50 ++ wsJx4a65c0 ++ wsX10 ++ wsX30 ++ wsX40 ++ (vx_atS RX6 286 "java/lang/IndexOutOfBoundsException" ["java/lang/RuntimeException", "java/lang/Exception"]).filter goodWord)
def wsX6_noneTooManyIfAllJoined_r1 : List Cond := [Cond.fieldLink RX6 25 "Tureenlist" "joined" "I", Cond.fieldLink RX6 12 "Tureenlist" "wishes" "Ljava/util/ArrayList;", Cond.classLink RX6 56 "Tureenlist$Wish", Cond.fieldLink RX6 232 "Tureenlist$Wish" "count" "I", Cond.methodLink RX6 47 yJx4a65c_size_8abf5, Cond.instanceMethod yJx4a65c_size_8abf5, Cond.selects RJx4a65c yJx4a65c_size_8abf5 yJx4a65c_size_8abf5, Cond.initialized RJx4a65c, Cond.code yJx4a65c_size_8abf5 cJx4a65c_size_8abf5 1 (some .int), Cond.fieldLink RJx4a65c 48 "java/util/ArrayList" "size" "I", Cond.methodLink RX6 122 yJx4a65c_get_915e3, Cond.instanceMethod yJx4a65c_get_915e3, Cond.selects RJx4a65c yJx4a65c_get_915e3 yJx4a65c_get_915e3, Cond.code yJx4a65c_get_915e3 cJx4a65c_get_915e3 2 (some (.object "java/lang/Object")), Cond.methodLink RJx4a65c 118 yJ15_checkIndex_7cf53, Cond.static yJ15_checkIndex_7cf53, Cond.initialized RJ15, Cond.code yJ15_checkIndex_7cf53 cJ15_checkIndex_7cf53 2 (some .int), Cond.methodLink RJ15 105 yJ3_checkIndex_8e157, Cond.static yJ3_checkIndex_8e157, Cond.initialized RJ3, Cond.code yJ3_checkIndex_8e157 cJ3_checkIndex_8e157 3 (some .int), Cond.methodLink RJx4a65c 123 yJx4a65c_elementData_915e3, Cond.instanceMethod yJx4a65c_elementData_915e3]
def wsX6_noneTooManyIfAllJoined_r2 : List Cond := [Cond.selects RJx4a65c yJx4a65c_elementData_915e3 yJx4a65c_elementData_915e3, Cond.code yJx4a65c_elementData_915e3 cJx4a65c_elementData_915e3 2 (some (.object "java/lang/Object")), Cond.fieldLink RJx4a65c 9 "java/util/ArrayList" "elementData" "[Ljava/lang/Object;", Cond.methodLink RX6 239 yX6_giftsOf, Cond.instanceMethod yX6_giftsOf, Cond.selects RX6 yX6_giftsOf yX6_giftsOf, Cond.initialized RX6, Cond.code yX6_giftsOf cX6_giftsOf 6 (some .int), Cond.fieldLink RX6 19 "Tureenlist" "gifts" "Ljava/util/ArrayList;", Cond.classLink RX6 171 "Tureenlist$Gift", Cond.fieldLink RX6 297 "Tureenlist$Gift" "state" "I", Cond.fieldLink RX6 185 "Tureenlist$Gift" "of" "LTureenlist$Wish;", Cond.sameField "Tureenlist$Gift" "Tureenlist$Deed" "of" "LTureenlist$Wish;", Cond.methodLink RX6 235 yX6_oneIf, Cond.static yX6_oneIf, Cond.code yX6_oneIf cX6_oneIf 1 (some .int)]
def wsX6_noneTooManyIfAllJoined : List Cond := .code yX6_noneTooManyIfAllJoined cX6_noneTooManyIfAllJoined 3 (some .boolean) :: ((wsX6_noneTooManyIfAllJoined_r1 ++ wsX6_noneTooManyIfAllJoined_r2) ++ wsX60 ++ wsX50 ++ wsJx4a65c0 ++ wsX10 ++ wsX30)
def wsX6_paidForKept_r1 : List Cond := [Cond.fieldLink RX6 16 "Tureenlist" "guests" "Ljava/util/ArrayList;", Cond.classLink RX6 69 "Tureenlist$Guest", Cond.methodLink RX6 47 yJx4a65c_size_8abf5, Cond.instanceMethod yJx4a65c_size_8abf5, Cond.selects RJx4a65c yJx4a65c_size_8abf5 yJx4a65c_size_8abf5, Cond.initialized RJx4a65c, Cond.code yJx4a65c_size_8abf5 cJx4a65c_size_8abf5 1 (some .int), Cond.fieldLink RJx4a65c 48 "java/util/ArrayList" "size" "I", Cond.methodLink RX6 122 yJx4a65c_get_915e3, Cond.instanceMethod yJx4a65c_get_915e3, Cond.selects RJx4a65c yJx4a65c_get_915e3 yJx4a65c_get_915e3, Cond.code yJx4a65c_get_915e3 cJx4a65c_get_915e3 2 (some (.object "java/lang/Object")), Cond.methodLink RJx4a65c 118 yJ15_checkIndex_7cf53, Cond.static yJ15_checkIndex_7cf53, Cond.initialized RJ15, Cond.code yJ15_checkIndex_7cf53 cJ15_checkIndex_7cf53 2 (some .int), Cond.methodLink RJ15 105 yJ3_checkIndex_8e157, Cond.static yJ3_checkIndex_8e157, Cond.initialized RJ3, Cond.code yJ3_checkIndex_8e157 cJ3_checkIndex_8e157 3 (some .int), Cond.methodLink RJx4a65c 123 yJx4a65c_elementData_915e3, Cond.instanceMethod yJx4a65c_elementData_915e3, Cond.selects RJx4a65c yJx4a65c_elementData_915e3 yJx4a65c_elementData_915e3, Cond.code yJx4a65c_elementData_915e3 cJx4a65c_elementData_915e3 2 (some (.object "java/lang/Object"))]
def wsX6_paidForKept_r2 : List Cond := [Cond.fieldLink RJx4a65c 9 "java/util/ArrayList" "elementData" "[Ljava/lang/Object;", Cond.methodLink RX6 251 yX6_paidForKeptBy, Cond.instanceMethod yX6_paidForKeptBy, Cond.selects RX6 yX6_paidForKeptBy yX6_paidForKeptBy, Cond.initialized RX6, Cond.code yX6_paidForKeptBy cX6_paidForKeptBy 5 (some .int), Cond.fieldLink RX6 19 "Tureenlist" "gifts" "Ljava/util/ArrayList;", Cond.classLink RX6 171 "Tureenlist$Gift", Cond.fieldLink RX6 181 "Tureenlist$Gift" "by" "LTureenlist$Guest;", Cond.sameField "Tureenlist$Gift" "Tureenlist$Deed" "by" "LTureenlist$Guest;", Cond.fieldLink RX6 294 "Tureenlist$Gift" "paid" "I", Cond.methodLink RX6 177 yX1_isKept, Cond.instanceMethod yX1_isKept, Cond.selects RX1 yX1_isKept yX1_isKept, Cond.initialized RX1, Cond.code yX1_isKept cX1_isKept 1 (some .boolean), Cond.fieldLink RX1 18 "Tureenlist$Gift" "state" "I"]
def wsX6_paidForKept : List Cond := .code yX6_paidForKept cX6_paidForKept 3 (some .int) :: ((wsX6_paidForKept_r1 ++ wsX6_paidForKept_r2) ++ wsX60 ++ wsJx4a65c0 ++ wsX10 ++ wsX30)
def wsX6_pledgedNow_r1 : List Cond := [Cond.fieldLink RX6 12 "Tureenlist" "wishes" "Ljava/util/ArrayList;", Cond.classLink RX6 56 "Tureenlist$Wish", Cond.methodLink RX6 47 yJx4a65c_size_8abf5, Cond.instanceMethod yJx4a65c_size_8abf5, Cond.selects RJx4a65c yJx4a65c_size_8abf5 yJx4a65c_size_8abf5, Cond.initialized RJx4a65c, Cond.code yJx4a65c_size_8abf5 cJx4a65c_size_8abf5 1 (some .int), Cond.fieldLink RJx4a65c 48 "java/util/ArrayList" "size" "I", Cond.methodLink RX6 122 yJx4a65c_get_915e3, Cond.instanceMethod yJx4a65c_get_915e3, Cond.selects RJx4a65c yJx4a65c_get_915e3 yJx4a65c_get_915e3, Cond.code yJx4a65c_get_915e3 cJx4a65c_get_915e3 2 (some (.object "java/lang/Object")), Cond.methodLink RJx4a65c 118 yJ15_checkIndex_7cf53, Cond.static yJ15_checkIndex_7cf53, Cond.initialized RJ15, Cond.code yJ15_checkIndex_7cf53 cJ15_checkIndex_7cf53 2 (some .int), Cond.methodLink RJ15 105 yJ3_checkIndex_8e157, Cond.static yJ3_checkIndex_8e157, Cond.initialized RJ3, Cond.code yJ3_checkIndex_8e157 cJ3_checkIndex_8e157 3 (some .int), Cond.methodLink RJx4a65c 123 yJx4a65c_elementData_915e3, Cond.instanceMethod yJx4a65c_elementData_915e3, Cond.selects RJx4a65c yJx4a65c_elementData_915e3 yJx4a65c_elementData_915e3, Cond.code yJx4a65c_elementData_915e3 cJx4a65c_elementData_915e3 2 (some (.object "java/lang/Object"))]
def wsX6_pledgedNow_r2 : List Cond := [Cond.fieldLink RJx4a65c 9 "java/util/ArrayList" "elementData" "[Ljava/lang/Object;", Cond.methodLink RX6 91 yX5_pledged, Cond.instanceMethod yX5_pledged, Cond.selects RX5 yX5_pledged yX5_pledged, Cond.initialized RX5, Cond.code yX5_pledged cX5_pledged 3 (some .int), Cond.fieldLink RX5 26 "Tureenlist$Wish" "pledges" "Ljava/util/ArrayList;", Cond.classLink RX5 38 "Tureenlist$Pledge", Cond.fieldLink RX5 40 "Tureenlist$Pledge" "pence" "I", Cond.methodLink RX5 30 yJx4a65c_size_8abf5, Cond.methodLink RX5 34 yJx4a65c_get_915e3]
def wsX6_pledgedNow : List Cond := .code yX6_pledgedNow cX6_pledgedNow 3 (some .int) :: ((wsX6_pledgedNow_r1 ++ wsX6_pledgedNow_r2) ++ wsX60 ++ wsJx4a65c0 ++ wsX50 ++ wsX40)
def wsX6_noPurseBelowZero_r1 : List Cond := [Cond.fieldLink RX6 16 "Tureenlist" "guests" "Ljava/util/ArrayList;", Cond.classLink RX6 69 "Tureenlist$Guest", Cond.fieldLink RX6 158 "Tureenlist$Guest" "purse" "I", Cond.methodLink RX6 47 yJx4a65c_size_8abf5, Cond.instanceMethod yJx4a65c_size_8abf5, Cond.selects RJx4a65c yJx4a65c_size_8abf5 yJx4a65c_size_8abf5, Cond.initialized RJx4a65c, Cond.code yJx4a65c_size_8abf5 cJx4a65c_size_8abf5 1 (some .int), Cond.fieldLink RJx4a65c 48 "java/util/ArrayList" "size" "I", Cond.methodLink RX6 122 yJx4a65c_get_915e3, Cond.instanceMethod yJx4a65c_get_915e3, Cond.selects RJx4a65c yJx4a65c_get_915e3 yJx4a65c_get_915e3, Cond.code yJx4a65c_get_915e3 cJx4a65c_get_915e3 2 (some (.object "java/lang/Object")), Cond.methodLink RJx4a65c 118 yJ15_checkIndex_7cf53, Cond.static yJ15_checkIndex_7cf53, Cond.initialized RJ15, Cond.code yJ15_checkIndex_7cf53 cJ15_checkIndex_7cf53 2 (some .int), Cond.methodLink RJ15 105 yJ3_checkIndex_8e157, Cond.static yJ3_checkIndex_8e157, Cond.initialized RJ3, Cond.code yJ3_checkIndex_8e157 cJ3_checkIndex_8e157 3 (some .int), Cond.methodLink RJx4a65c 123 yJx4a65c_elementData_915e3, Cond.instanceMethod yJx4a65c_elementData_915e3, Cond.selects RJx4a65c yJx4a65c_elementData_915e3 yJx4a65c_elementData_915e3]
def wsX6_noPurseBelowZero_r2 : List Cond := [Cond.code yJx4a65c_elementData_915e3 cJx4a65c_elementData_915e3 2 (some (.object "java/lang/Object")), Cond.fieldLink RJx4a65c 9 "java/util/ArrayList" "elementData" "[Ljava/lang/Object;"]
def wsX6_noPurseBelowZero : List Cond := .code yX6_noPurseBelowZero cX6_noPurseBelowZero 2 (some .boolean) :: ((wsX6_noPurseBelowZero_r1 ++ wsX6_noPurseBelowZero_r2) ++ wsX60 ++ wsX20 ++ wsJx4a65c0)
def wsX6_noOrderedLacks_r1 : List Cond := [Cond.fieldLink RX6 12 "Tureenlist" "wishes" "Ljava/util/ArrayList;", Cond.classLink RX6 56 "Tureenlist$Wish", Cond.methodLink RX6 47 yJx4a65c_size_8abf5, Cond.instanceMethod yJx4a65c_size_8abf5, Cond.selects RJx4a65c yJx4a65c_size_8abf5 yJx4a65c_size_8abf5, Cond.initialized RJx4a65c, Cond.code yJx4a65c_size_8abf5 cJx4a65c_size_8abf5 1 (some .int), Cond.fieldLink RJx4a65c 48 "java/util/ArrayList" "size" "I", Cond.methodLink RX6 122 yJx4a65c_get_915e3, Cond.instanceMethod yJx4a65c_get_915e3, Cond.selects RJx4a65c yJx4a65c_get_915e3 yJx4a65c_get_915e3, Cond.code yJx4a65c_get_915e3 cJx4a65c_get_915e3 2 (some (.object "java/lang/Object")), Cond.methodLink RJx4a65c 118 yJ15_checkIndex_7cf53, Cond.static yJ15_checkIndex_7cf53, Cond.initialized RJ15, Cond.code yJ15_checkIndex_7cf53 cJ15_checkIndex_7cf53 2 (some .int), Cond.methodLink RJ15 105 yJ3_checkIndex_8e157, Cond.static yJ3_checkIndex_8e157, Cond.initialized RJ3, Cond.code yJ3_checkIndex_8e157 cJ3_checkIndex_8e157 3 (some .int), Cond.methodLink RJx4a65c 123 yJx4a65c_elementData_915e3, Cond.instanceMethod yJx4a65c_elementData_915e3, Cond.selects RJx4a65c yJx4a65c_elementData_915e3 yJx4a65c_elementData_915e3, Cond.code yJx4a65c_elementData_915e3 cJx4a65c_elementData_915e3 2 (some (.object "java/lang/Object"))]
def wsX6_noOrderedLacks_r2 : List Cond := [Cond.fieldLink RJx4a65c 9 "java/util/ArrayList" "elementData" "[Ljava/lang/Object;", Cond.methodLink RX6 242 yX5_isOrdered, Cond.instanceMethod yX5_isOrdered, Cond.selects RX5 yX5_isOrdered yX5_isOrdered, Cond.initialized RX5, Cond.code yX5_isOrdered cX5_isOrdered 1 (some .boolean), Cond.fieldLink RX5 19 "Tureenlist$Wish" "forMany" "Z", Cond.methodLink RX5 56 yX5_lacking, Cond.instanceMethod yX5_lacking, Cond.selects RX5 yX5_lacking yX5_lacking, Cond.code yX5_lacking cX5_lacking 1 (some .int), Cond.fieldLink RX5 16 "Tureenlist$Wish" "cost" "I", Cond.methodLink RX5 50 Lib.Math.max.name, Cond.static Lib.Math.max.name, Cond.initialized "java/lang/Math", Cond.code Lib.Math.max.name Lib.Math.max.code 2 (some .int), Cond.methodLink RX5 47 yX5_pledged, Cond.instanceMethod yX5_pledged, Cond.selects RX5 yX5_pledged yX5_pledged, Cond.code yX5_pledged cX5_pledged 3 (some .int), Cond.fieldLink RX5 26 "Tureenlist$Wish" "pledges" "Ljava/util/ArrayList;", Cond.classLink RX5 38 "Tureenlist$Pledge", Cond.fieldLink RX5 40 "Tureenlist$Pledge" "pence" "I", Cond.methodLink RX5 30 yJx4a65c_size_8abf5]
def wsX6_noOrderedLacks_r3 : List Cond := [Cond.methodLink RX5 34 yJx4a65c_get_915e3, Cond.methodLink RX6 206 yX5_lacking]
def wsX6_noOrderedLacks : List Cond := .code yX6_noOrderedLacks cX6_noOrderedLacks 3 (some .boolean) :: ((wsX6_noOrderedLacks_r1 ++ (wsX6_noOrderedLacks_r2 ++ wsX6_noOrderedLacks_r3)) ++ wsX60 ++ wsJx4a65c0 ++ wsX50 ++ wsX40)
def wsX6_joinedTillsSeeAlike_r1 : List Cond := [Cond.methodLink RX6 105 yX6_isJoined, Cond.instanceMethod yX6_isJoined, Cond.selects RX6 yX6_isJoined yX6_isJoined, Cond.initialized RX6, Cond.code yX6_isJoined cX6_isJoined 2 (some .boolean), Cond.fieldLink RX6 25 "Tureenlist" "joined" "I", Cond.methodLink RX6 269 yX6_keptSeenAt, Cond.instanceMethod yX6_keptSeenAt, Cond.selects RX6 yX6_keptSeenAt yX6_keptSeenAt, Cond.code yX6_keptSeenAt cX6_keptSeenAt 5 (some .int), Cond.fieldLink RX6 19 "Tureenlist" "gifts" "Ljava/util/ArrayList;", Cond.classLink RX6 171 "Tureenlist$Gift", Cond.methodLink RX6 47 yJx4a65c_size_8abf5, Cond.instanceMethod yJx4a65c_size_8abf5, Cond.selects RJx4a65c yJx4a65c_size_8abf5 yJx4a65c_size_8abf5, Cond.initialized RJx4a65c, Cond.code yJx4a65c_size_8abf5 cJx4a65c_size_8abf5 1 (some .int), Cond.fieldLink RJx4a65c 48 "java/util/ArrayList" "size" "I", Cond.methodLink RX6 122 yJx4a65c_get_915e3, Cond.instanceMethod yJx4a65c_get_915e3, Cond.selects RJx4a65c yJx4a65c_get_915e3 yJx4a65c_get_915e3, Cond.code yJx4a65c_get_915e3 cJx4a65c_get_915e3 2 (some (.object "java/lang/Object")), Cond.methodLink RJx4a65c 118 yJ15_checkIndex_7cf53, Cond.static yJ15_checkIndex_7cf53]
def wsX6_joinedTillsSeeAlike_r2 : List Cond := [Cond.initialized RJ15, Cond.code yJ15_checkIndex_7cf53 cJ15_checkIndex_7cf53 2 (some .int), Cond.methodLink RJ15 105 yJ3_checkIndex_8e157, Cond.static yJ3_checkIndex_8e157, Cond.initialized RJ3, Cond.code yJ3_checkIndex_8e157 cJ3_checkIndex_8e157 3 (some .int), Cond.methodLink RJx4a65c 123 yJx4a65c_elementData_915e3, Cond.instanceMethod yJx4a65c_elementData_915e3, Cond.selects RJx4a65c yJx4a65c_elementData_915e3 yJx4a65c_elementData_915e3, Cond.code yJx4a65c_elementData_915e3 cJx4a65c_elementData_915e3 2 (some (.object "java/lang/Object")), Cond.fieldLink RJx4a65c 9 "java/util/ArrayList" "elementData" "[Ljava/lang/Object;", Cond.methodLink RX6 177 yX1_isKept, Cond.instanceMethod yX1_isKept, Cond.selects RX1 yX1_isKept yX1_isKept, Cond.initialized RX1, Cond.code yX1_isKept cX1_isKept 1 (some .boolean), Cond.fieldLink RX1 18 "Tureenlist$Gift" "state" "I", Cond.methodLink RX6 428 ⟨"Tureenlist$Gift", "isSeenAt", "(I)Z"⟩, Cond.sameMethod "Tureenlist$Gift" "Tureenlist$Deed" "isSeenAt" "(I)Z", Cond.selects RX1 ⟨"Tureenlist$Gift", "isSeenAt", "(I)Z"⟩ yX0_isSeenAt, Cond.instanceMethod yX0_isSeenAt, Cond.initialized RX0, Cond.code yX0_isSeenAt cX0_isSeenAt 2 (some .boolean), Cond.fieldLink RX0 24 "Tureenlist$Deed" "seers" "I"]
def wsX6_joinedTillsSeeAlike_r3 : List Cond := [Cond.methodLink RX6 235 yX6_oneIf, Cond.static yX6_oneIf, Cond.code yX6_oneIf cX6_oneIf 1 (some .int)]
def wsX6_joinedTillsSeeAlike : List Cond := .code yX6_joinedTillsSeeAlike cX6_joinedTillsSeeAlike 4 (some .boolean) :: ((wsX6_joinedTillsSeeAlike_r1 ++ (wsX6_joinedTillsSeeAlike_r2 ++ wsX6_joinedTillsSeeAlike_r3)) ++ wsX60 ++ wsJx4a65c0 ++ wsX10 ++ wsX30)
def wsX6_isSound_r1 : List Cond := [Cond.fieldLink RX6 303 "Tureenlist" "paidEver" "I", Cond.fieldLink RX6 306 "Tureenlist" "wentBackEver" "I", Cond.methodLink RX6 340 yX6_noneTooManyIfAllJoined, Cond.instanceMethod yX6_noneTooManyIfAllJoined, Cond.selects RX6 yX6_noneTooManyIfAllJoined yX6_noneTooManyIfAllJoined, Cond.initialized RX6, Cond.code yX6_noneTooManyIfAllJoined cX6_noneTooManyIfAllJoined 3 (some .boolean), Cond.fieldLink RX6 25 "Tureenlist" "joined" "I", Cond.fieldLink RX6 12 "Tureenlist" "wishes" "Ljava/util/ArrayList;", Cond.classLink RX6 56 "Tureenlist$Wish", Cond.fieldLink RX6 232 "Tureenlist$Wish" "count" "I", Cond.methodLink RX6 47 yJx4a65c_size_8abf5, Cond.instanceMethod yJx4a65c_size_8abf5, Cond.selects RJx4a65c yJx4a65c_size_8abf5 yJx4a65c_size_8abf5, Cond.initialized RJx4a65c, Cond.code yJx4a65c_size_8abf5 cJx4a65c_size_8abf5 1 (some .int), Cond.fieldLink RJx4a65c 48 "java/util/ArrayList" "size" "I", Cond.methodLink RX6 122 yJx4a65c_get_915e3, Cond.instanceMethod yJx4a65c_get_915e3, Cond.selects RJx4a65c yJx4a65c_get_915e3 yJx4a65c_get_915e3, Cond.code yJx4a65c_get_915e3 cJx4a65c_get_915e3 2 (some (.object "java/lang/Object")), Cond.methodLink RJx4a65c 118 yJ15_checkIndex_7cf53, Cond.static yJ15_checkIndex_7cf53, Cond.initialized RJ15]
def wsX6_isSound_r2 : List Cond := [Cond.code yJ15_checkIndex_7cf53 cJ15_checkIndex_7cf53 2 (some .int), Cond.methodLink RJ15 105 yJ3_checkIndex_8e157, Cond.static yJ3_checkIndex_8e157, Cond.initialized RJ3, Cond.code yJ3_checkIndex_8e157 cJ3_checkIndex_8e157 3 (some .int), Cond.methodLink RJx4a65c 123 yJx4a65c_elementData_915e3, Cond.instanceMethod yJx4a65c_elementData_915e3, Cond.selects RJx4a65c yJx4a65c_elementData_915e3 yJx4a65c_elementData_915e3, Cond.code yJx4a65c_elementData_915e3 cJx4a65c_elementData_915e3 2 (some (.object "java/lang/Object")), Cond.fieldLink RJx4a65c 9 "java/util/ArrayList" "elementData" "[Ljava/lang/Object;", Cond.methodLink RX6 239 yX6_giftsOf, Cond.instanceMethod yX6_giftsOf, Cond.selects RX6 yX6_giftsOf yX6_giftsOf, Cond.code yX6_giftsOf cX6_giftsOf 6 (some .int), Cond.fieldLink RX6 19 "Tureenlist" "gifts" "Ljava/util/ArrayList;", Cond.classLink RX6 171 "Tureenlist$Gift", Cond.fieldLink RX6 297 "Tureenlist$Gift" "state" "I", Cond.fieldLink RX6 185 "Tureenlist$Gift" "of" "LTureenlist$Wish;", Cond.sameField "Tureenlist$Gift" "Tureenlist$Deed" "of" "LTureenlist$Wish;", Cond.methodLink RX6 235 yX6_oneIf, Cond.static yX6_oneIf, Cond.code yX6_oneIf cX6_oneIf 1 (some .int), Cond.methodLink RX6 343 yX6_paidForKept, Cond.instanceMethod yX6_paidForKept]
def wsX6_isSound_r3 : List Cond := [Cond.selects RX6 yX6_paidForKept yX6_paidForKept, Cond.code yX6_paidForKept cX6_paidForKept 3 (some .int), Cond.fieldLink RX6 16 "Tureenlist" "guests" "Ljava/util/ArrayList;", Cond.classLink RX6 69 "Tureenlist$Guest", Cond.methodLink RX6 251 yX6_paidForKeptBy, Cond.instanceMethod yX6_paidForKeptBy, Cond.selects RX6 yX6_paidForKeptBy yX6_paidForKeptBy, Cond.code yX6_paidForKeptBy cX6_paidForKeptBy 5 (some .int), Cond.fieldLink RX6 181 "Tureenlist$Gift" "by" "LTureenlist$Guest;", Cond.sameField "Tureenlist$Gift" "Tureenlist$Deed" "by" "LTureenlist$Guest;", Cond.fieldLink RX6 294 "Tureenlist$Gift" "paid" "I", Cond.methodLink RX6 177 yX1_isKept, Cond.instanceMethod yX1_isKept, Cond.selects RX1 yX1_isKept yX1_isKept, Cond.initialized RX1, Cond.code yX1_isKept cX1_isKept 1 (some .boolean), Cond.fieldLink RX1 18 "Tureenlist$Gift" "state" "I", Cond.methodLink RX6 346 yX6_pledgedNow, Cond.instanceMethod yX6_pledgedNow, Cond.selects RX6 yX6_pledgedNow yX6_pledgedNow, Cond.code yX6_pledgedNow cX6_pledgedNow 3 (some .int), Cond.methodLink RX6 91 yX5_pledged, Cond.instanceMethod yX5_pledged, Cond.selects RX5 yX5_pledged yX5_pledged]
def wsX6_isSound_r4 : List Cond := [Cond.initialized RX5, Cond.code yX5_pledged cX5_pledged 3 (some .int), Cond.fieldLink RX5 26 "Tureenlist$Wish" "pledges" "Ljava/util/ArrayList;", Cond.classLink RX5 38 "Tureenlist$Pledge", Cond.fieldLink RX5 40 "Tureenlist$Pledge" "pence" "I", Cond.methodLink RX5 30 yJx4a65c_size_8abf5, Cond.methodLink RX5 34 yJx4a65c_get_915e3, Cond.methodLink RX6 349 yX6_noPurseBelowZero, Cond.instanceMethod yX6_noPurseBelowZero, Cond.selects RX6 yX6_noPurseBelowZero yX6_noPurseBelowZero, Cond.code yX6_noPurseBelowZero cX6_noPurseBelowZero 2 (some .boolean), Cond.fieldLink RX6 158 "Tureenlist$Guest" "purse" "I", Cond.methodLink RX6 352 yX6_noOrderedLacks, Cond.instanceMethod yX6_noOrderedLacks, Cond.selects RX6 yX6_noOrderedLacks yX6_noOrderedLacks, Cond.code yX6_noOrderedLacks cX6_noOrderedLacks 3 (some .boolean), Cond.methodLink RX6 242 yX5_isOrdered, Cond.instanceMethod yX5_isOrdered, Cond.selects RX5 yX5_isOrdered yX5_isOrdered, Cond.code yX5_isOrdered cX5_isOrdered 1 (some .boolean), Cond.fieldLink RX5 19 "Tureenlist$Wish" "forMany" "Z", Cond.methodLink RX5 56 yX5_lacking, Cond.instanceMethod yX5_lacking, Cond.selects RX5 yX5_lacking yX5_lacking]
def wsX6_isSound_r5 : List Cond := [Cond.code yX5_lacking cX5_lacking 1 (some .int), Cond.fieldLink RX5 16 "Tureenlist$Wish" "cost" "I", Cond.methodLink RX5 50 Lib.Math.max.name, Cond.static Lib.Math.max.name, Cond.initialized "java/lang/Math", Cond.code Lib.Math.max.name Lib.Math.max.code 2 (some .int), Cond.methodLink RX5 47 yX5_pledged, Cond.methodLink RX6 206 yX5_lacking, Cond.methodLink RX6 355 yX6_joinedTillsSeeAlike, Cond.instanceMethod yX6_joinedTillsSeeAlike, Cond.selects RX6 yX6_joinedTillsSeeAlike yX6_joinedTillsSeeAlike, Cond.code yX6_joinedTillsSeeAlike cX6_joinedTillsSeeAlike 4 (some .boolean), Cond.methodLink RX6 105 yX6_isJoined, Cond.instanceMethod yX6_isJoined, Cond.selects RX6 yX6_isJoined yX6_isJoined, Cond.code yX6_isJoined cX6_isJoined 2 (some .boolean), Cond.methodLink RX6 269 yX6_keptSeenAt, Cond.instanceMethod yX6_keptSeenAt, Cond.selects RX6 yX6_keptSeenAt yX6_keptSeenAt, Cond.code yX6_keptSeenAt cX6_keptSeenAt 5 (some .int), Cond.methodLink RX6 428 ⟨"Tureenlist$Gift", "isSeenAt", "(I)Z"⟩, Cond.sameMethod "Tureenlist$Gift" "Tureenlist$Deed" "isSeenAt" "(I)Z", Cond.selects RX1 ⟨"Tureenlist$Gift", "isSeenAt", "(I)Z"⟩ yX0_isSeenAt, Cond.instanceMethod yX0_isSeenAt]
def wsX6_isSound_r6 : List Cond := [Cond.initialized RX0, Cond.code yX0_isSeenAt cX0_isSeenAt 2 (some .boolean), Cond.fieldLink RX0 24 "Tureenlist$Deed" "seers" "I"]
def wsX6_isSound : List Cond := .code yX6_isSound cX6_isSound 1 (some .boolean) :: ((wsX6_isSound_r1 ++ (wsX6_isSound_r2 ++ (wsX6_isSound_r3 ++ (wsX6_isSound_r4 ++ (wsX6_isSound_r5 ++ wsX6_isSound_r6))))) ++ wsX60 ++ wsX50 ++ wsJx4a65c0 ++ wsX10 ++ wsX30 ++ wsX40 ++ wsX20)
def wsX6_digestTill_r1 : List Cond := [Cond.constantLong RX6 360 (31), Cond.fieldLink RX6 12 "Tureenlist" "wishes" "Ljava/util/ArrayList;", Cond.fieldLink RX6 16 "Tureenlist" "guests" "Ljava/util/ArrayList;", Cond.methodLink RX6 381 yX6_ofTill, Cond.instanceMethod yX6_ofTill, Cond.selects RX6 yX6_ofTill yX6_ofTill, Cond.initialized RX6, Cond.code yX6_ofTill cX6_ofTill 3 (some .int), Cond.classLink RX6 29 "java/lang/IllegalArgumentException", Cond.initialized "java/lang/IllegalArgumentException", Cond.methodLink RX6 101 yX6_checkTill, Cond.static yX6_checkTill, Cond.code yX6_checkTill cX6_checkTill 1 none, Cond.classLink RX6 284 "java/lang/IndexOutOfBoundsException", Cond.initialized "java/lang/IndexOutOfBoundsException", Cond.methodLink RX6 105 yX6_isJoined, Cond.instanceMethod yX6_isJoined, Cond.selects RX6 yX6_isJoined yX6_isJoined, Cond.code yX6_isJoined cX6_isJoined 2 (some .boolean), Cond.fieldLink RX6 25 "Tureenlist" "joined" "I", Cond.methodLink RX6 235 yX6_oneIf, Cond.static yX6_oneIf, Cond.code yX6_oneIf cX6_oneIf 1 (some .int), Cond.methodLink RX6 263 yX6_keptBoughtAt]
def wsX6_digestTill_r2 : List Cond := [Cond.instanceMethod yX6_keptBoughtAt, Cond.selects RX6 yX6_keptBoughtAt yX6_keptBoughtAt, Cond.code yX6_keptBoughtAt cX6_keptBoughtAt 5 (some .int), Cond.fieldLink RX6 19 "Tureenlist" "gifts" "Ljava/util/ArrayList;", Cond.classLink RX6 171 "Tureenlist$Gift", Cond.fieldLink RX6 291 "Tureenlist$Gift" "till" "I", Cond.sameField "Tureenlist$Gift" "Tureenlist$Deed" "till" "I", Cond.methodLink RX6 47 yJx4a65c_size_8abf5, Cond.instanceMethod yJx4a65c_size_8abf5, Cond.selects RJx4a65c yJx4a65c_size_8abf5 yJx4a65c_size_8abf5, Cond.initialized RJx4a65c, Cond.code yJx4a65c_size_8abf5 cJx4a65c_size_8abf5 1 (some .int), Cond.fieldLink RJx4a65c 48 "java/util/ArrayList" "size" "I", Cond.methodLink RX6 122 yJx4a65c_get_915e3, Cond.instanceMethod yJx4a65c_get_915e3, Cond.selects RJx4a65c yJx4a65c_get_915e3 yJx4a65c_get_915e3, Cond.code yJx4a65c_get_915e3 cJx4a65c_get_915e3 2 (some (.object "java/lang/Object")), Cond.methodLink RJx4a65c 118 yJ15_checkIndex_7cf53, Cond.static yJ15_checkIndex_7cf53, Cond.initialized RJ15, Cond.code yJ15_checkIndex_7cf53 cJ15_checkIndex_7cf53 2 (some .int), Cond.methodLink RJ15 105 yJ3_checkIndex_8e157, Cond.static yJ3_checkIndex_8e157, Cond.initialized RJ3]
def wsX6_digestTill_r3 : List Cond := [Cond.code yJ3_checkIndex_8e157 cJ3_checkIndex_8e157 3 (some .int), Cond.methodLink RJx4a65c 123 yJx4a65c_elementData_915e3, Cond.instanceMethod yJx4a65c_elementData_915e3, Cond.selects RJx4a65c yJx4a65c_elementData_915e3 yJx4a65c_elementData_915e3, Cond.code yJx4a65c_elementData_915e3 cJx4a65c_elementData_915e3 2 (some (.object "java/lang/Object")), Cond.fieldLink RJx4a65c 9 "java/util/ArrayList" "elementData" "[Ljava/lang/Object;", Cond.methodLink RX6 177 yX1_isKept, Cond.instanceMethod yX1_isKept, Cond.selects RX1 yX1_isKept yX1_isKept, Cond.initialized RX1, Cond.code yX1_isKept cX1_isKept 1 (some .boolean), Cond.fieldLink RX1 18 "Tureenlist$Gift" "state" "I", Cond.methodLink RX6 266 yX6_holdsStandingSeenAt, Cond.instanceMethod yX6_holdsStandingSeenAt, Cond.selects RX6 yX6_holdsStandingSeenAt yX6_holdsStandingSeenAt, Cond.code yX6_holdsStandingSeenAt cX6_holdsStandingSeenAt 5 (some .int), Cond.fieldLink RX6 22 "Tureenlist" "holds" "Ljava/util/ArrayList;", Cond.classLink RX6 143 "Tureenlist$Hold", Cond.fieldLink RX6 145 "Tureenlist" "minute" "I", Cond.methodLink RX6 435 yX3_standsAt, Cond.instanceMethod yX3_standsAt, Cond.selects RX3 yX3_standsAt yX3_standsAt, Cond.initialized RX3, Cond.code yX3_standsAt cX3_standsAt 2 (some .boolean)]
def wsX6_digestTill_r4 : List Cond := [Cond.fieldLink RX3 13 "Tureenlist$Hold" "used" "Z", Cond.fieldLink RX3 17 "Tureenlist$Hold" "of" "LTureenlist$Wish;", Cond.sameField "Tureenlist$Hold" "Tureenlist$Deed" "of" "LTureenlist$Wish;", Cond.fieldLink RX3 21 "Tureenlist$Wish" "struck" "Z", Cond.fieldLink RX3 26 "Tureenlist$Hold" "since" "I", Cond.sameField "Tureenlist$Hold" "Tureenlist$Deed" "since" "I", Cond.fieldLink RX3 7 "Tureenlist$Hold" "minutes" "I", Cond.methodLink RX6 438 ⟨"Tureenlist$Hold", "isSeenAt", "(I)Z"⟩, Cond.sameMethod "Tureenlist$Hold" "Tureenlist$Deed" "isSeenAt" "(I)Z", Cond.selects RX3 ⟨"Tureenlist$Hold", "isSeenAt", "(I)Z"⟩ yX0_isSeenAt, Cond.instanceMethod yX0_isSeenAt, Cond.initialized RX0, Cond.code yX0_isSeenAt cX0_isSeenAt 2 (some .boolean), Cond.fieldLink RX0 24 "Tureenlist$Deed" "seers" "I", Cond.methodLink RX6 269 yX6_keptSeenAt, Cond.instanceMethod yX6_keptSeenAt, Cond.selects RX6 yX6_keptSeenAt yX6_keptSeenAt, Cond.code yX6_keptSeenAt cX6_keptSeenAt 5 (some .int), Cond.methodLink RX6 428 ⟨"Tureenlist$Gift", "isSeenAt", "(I)Z"⟩, Cond.sameMethod "Tureenlist$Gift" "Tureenlist$Deed" "isSeenAt" "(I)Z", Cond.selects RX1 ⟨"Tureenlist$Gift", "isSeenAt", "(I)Z"⟩ yX0_isSeenAt, Cond.methodLink RX6 272 yX6_takeStock, Cond.instanceMethod yX6_takeStock, Cond.selects RX6 yX6_takeStock yX6_takeStock]
def wsX6_digestTill_r5 : List Cond := [Cond.code yX6_takeStock cX6_takeStock 4 none, Cond.classLink RX6 56 "Tureenlist$Wish", Cond.fieldLink RX6 337 "Tureenlist$Wish" "stock" "I", Cond.methodLink RX6 137 yX6_leftAt, Cond.instanceMethod yX6_leftAt, Cond.selects RX6 yX6_leftAt yX6_leftAt, Cond.code yX6_leftAt cX6_leftAt 6 (some .int), Cond.fieldLink RX6 78 "Tureenlist$Wish" "forMany" "Z", Cond.fieldLink RX6 98 "Tureenlist$Wish" "struck" "Z", Cond.fieldLink RX6 232 "Tureenlist$Wish" "count" "I", Cond.fieldLink RX6 434 "Tureenlist$Hold" "of" "LTureenlist$Wish;", Cond.methodLink RX6 408 Lib.Math.max.name, Cond.static Lib.Math.max.name, Cond.initialized "java/lang/Math", Cond.code Lib.Math.max.name Lib.Math.max.code 2 (some .int), Cond.methodLink RX6 431 yX6_keptOfSeenAt, Cond.instanceMethod yX6_keptOfSeenAt, Cond.selects RX6 yX6_keptOfSeenAt yX6_keptOfSeenAt, Cond.code yX6_keptOfSeenAt cX6_keptOfSeenAt 6 (some .int), Cond.fieldLink RX6 185 "Tureenlist$Gift" "of" "LTureenlist$Wish;", Cond.sameField "Tureenlist$Gift" "Tureenlist$Deed" "of" "LTureenlist$Wish;", Cond.methodLink RX6 275 yX6_guestsWithoutPart, Cond.instanceMethod yX6_guestsWithoutPart, Cond.selects RX6 yX6_guestsWithoutPart yX6_guestsWithoutPart]
def wsX6_digestTill_r6 : List Cond := [Cond.code yX6_guestsWithoutPart cX6_guestsWithoutPart 4 (some .int), Cond.classLink RX6 69 "Tureenlist$Guest", Cond.methodLink RX6 247 yX6_giftsBy, Cond.instanceMethod yX6_giftsBy, Cond.selects RX6 yX6_giftsBy yX6_giftsBy, Cond.code yX6_giftsBy cX6_giftsBy 6 (some .int), Cond.fieldLink RX6 297 "Tureenlist$Gift" "state" "I", Cond.fieldLink RX6 181 "Tureenlist$Gift" "by" "LTureenlist$Guest;", Cond.sameField "Tureenlist$Gift" "Tureenlist$Deed" "by" "LTureenlist$Guest;", Cond.methodLink RX6 255 yX6_pledgedBy, Cond.instanceMethod yX6_pledgedBy, Cond.selects RX6 yX6_pledgedBy yX6_pledgedBy, Cond.code yX6_pledgedBy cX6_pledgedBy 4 (some .int), Cond.methodLink RX6 324 yX5_pledgedBy, Cond.instanceMethod yX5_pledgedBy, Cond.selects RX5 yX5_pledgedBy yX5_pledgedBy, Cond.initialized RX5, Cond.code yX5_pledgedBy cX5_pledgedBy 5 (some .int), Cond.fieldLink RX5 26 "Tureenlist$Wish" "pledges" "Ljava/util/ArrayList;", Cond.classLink RX5 38 "Tureenlist$Pledge", Cond.fieldLink RX5 43 "Tureenlist$Pledge" "by" "LTureenlist$Guest;", Cond.fieldLink RX5 40 "Tureenlist$Pledge" "pence" "I", Cond.methodLink RX5 30 yJx4a65c_size_8abf5, Cond.methodLink RX5 34 yJx4a65c_get_915e3]
def wsX6_digestTill_r7 : List Cond := [Cond.methodLink RX6 278 yX6_fillBy, Cond.instanceMethod yX6_fillBy, Cond.selects RX6 yX6_fillBy yX6_fillBy, Cond.code yX6_fillBy cX6_fillBy 6 (some .int), Cond.fieldLink RX6 158 "Tureenlist$Guest" "purse" "I", Cond.methodLink RX6 209 Lib.Math.min.name, Cond.static Lib.Math.min.name, Cond.code Lib.Math.min.name Lib.Math.min.code 2 (some .int), Cond.methodLink RX6 111 yJ6_bitCount_0f7a4, Cond.static yJ6_bitCount_0f7a4, Cond.initialized RJ6, Cond.code yJ6_bitCount_0f7a4 cJ6_bitCount_0f7a4 1 (some .int), Cond.constant RJ6 265 (1431655765), Cond.constant RJ6 266 (858993459), Cond.constant RJ6 267 (252645135), Cond.methodLink RX6 449 yX6_buyersAbove, Cond.instanceMethod yX6_buyersAbove, Cond.selects RX6 yX6_buyersAbove yX6_buyersAbove, Cond.code yX6_buyersAbove cX6_buyersAbove 5 (some .int), Cond.methodLink RX6 452 yX6_stockWithin, Cond.instanceMethod yX6_stockWithin, Cond.selects RX6 yX6_stockWithin yX6_stockWithin, Cond.code yX6_stockWithin cX6_stockWithin 6 (some .int), Cond.fieldLink RX6 88 "Tureenlist$Wish" "cost" "I"]
def wsX6_digestTill_r8 : List Cond := [Cond.methodLink RX6 281 yX6_allLeftAt, Cond.instanceMethod yX6_allLeftAt, Cond.selects RX6 yX6_allLeftAt yX6_allLeftAt, Cond.code yX6_allLeftAt cX6_allLeftAt 4 (some .int), Cond.methodLink RX6 384 yX6_left, Cond.instanceMethod yX6_left, Cond.selects RX6 yX6_left yX6_left, Cond.code yX6_left cX6_left 3 (some .int), Cond.methodLink RX6 74 yX6_wishNumbered, Cond.instanceMethod yX6_wishNumbered, Cond.selects RX6 yX6_wishNumbered yX6_wishNumbered, Cond.code yX6_wishNumbered cX6_wishNumbered 2 (some (.object "Tureenlist$Wish")), Cond.methodLink RX6 387 yX6_hint, Cond.instanceMethod yX6_hint, Cond.selects RX6 yX6_hint yX6_hint, Cond.code yX6_hint cX6_hint 12 (some .int), Cond.fieldLink RX6 290 "Tureenlist$Guest" "number" "I", Cond.methodLink RX6 129 yX6_guestNumbered, Cond.instanceMethod yX6_guestNumbered, Cond.selects RX6 yX6_guestNumbered yX6_guestNumbered, Cond.code yX6_guestNumbered cX6_guestNumbered 2 (some (.object "Tureenlist$Guest")), Cond.methodLink RX6 390 yX6_wouldTake, Cond.instanceMethod yX6_wouldTake, Cond.selects RX6 yX6_wouldTake yX6_wouldTake]
def wsX6_digestTill_r9 : List Cond := [Cond.code yX6_wouldTake cX6_wouldTake 4 (some .int), Cond.methodLink RX6 334 yX6_tooManyWith, Cond.instanceMethod yX6_tooManyWith, Cond.selects RX6 yX6_tooManyWith yX6_tooManyWith, Cond.code yX6_tooManyWith cX6_tooManyWith 6 (some .int), Cond.methodLink RX6 418 ⟨"Tureenlist$Gift", "isOpen", "()Z"⟩, Cond.sameMethod "Tureenlist$Gift" "Tureenlist$Deed" "isOpen" "()Z", Cond.selects RX1 ⟨"Tureenlist$Gift", "isOpen", "()Z"⟩ yX0_isOpen, Cond.instanceMethod yX0_isOpen, Cond.code yX0_isOpen cX0_isOpen 1 (some .boolean), Cond.fieldLink RX0 27 "Tureenlist$Deed" "open" "Z"]
def wsX6_digestTill : List Cond := .code yX6_digestTill cX6_digestTill 7 (some .long) :: ((wsX6_digestTill_r1 ++ (wsX6_digestTill_r2 ++ (wsX6_digestTill_r3 ++ (wsX6_digestTill_r4 ++ (wsX6_digestTill_r5 ++ (wsX6_digestTill_r6 ++ (wsX6_digestTill_r7 ++ (wsX6_digestTill_r8 ++ wsX6_digestTill_r9)))))))) ++ wsX60 ++ wsX10 ++ wsX30 ++ wsJx4a65c0 ++ wsX50 ++ wsX40 ++ wsX20 ++ (vx_atS RX6 33 "java/lang/IllegalArgumentException" ["java/lang/RuntimeException", "java/lang/Exception"]).filter goodWord ++ (vx_atS RX6 286 "java/lang/IndexOutOfBoundsException" ["java/lang/RuntimeException", "java/lang/Exception"]).filter goodWord)
def wsX6_digest_r1 : List Cond := [Cond.constantLong RX6 358 (4909), Cond.constantLong RX6 360 (31), Cond.fieldLink RX6 12 "Tureenlist" "wishes" "Ljava/util/ArrayList;", Cond.fieldLink RX6 16 "Tureenlist" "guests" "Ljava/util/ArrayList;", Cond.fieldLink RX6 19 "Tureenlist" "gifts" "Ljava/util/ArrayList;", Cond.methodLink RX6 362 yX6_shop, Cond.instanceMethod yX6_shop, Cond.selects RX6 yX6_shop yX6_shop, Cond.initialized RX6, Cond.code yX6_shop cX6_shop 2 (some .int), Cond.classLink RX6 29 "java/lang/IllegalArgumentException", Cond.initialized "java/lang/IllegalArgumentException", Cond.fieldLink RX6 145 "Tureenlist" "minute" "I", Cond.fieldLink RX6 303 "Tureenlist" "paidEver" "I", Cond.fieldLink RX6 306 "Tureenlist" "wentBackEver" "I", Cond.fieldLink RX6 22 "Tureenlist" "holds" "Ljava/util/ArrayList;", Cond.fieldLink RX6 229 "Tureenlist" "calledOff" "Z", Cond.methodLink RX6 47 yJx4a65c_size_8abf5, Cond.instanceMethod yJx4a65c_size_8abf5, Cond.selects RJx4a65c yJx4a65c_size_8abf5 yJx4a65c_size_8abf5, Cond.initialized RJx4a65c, Cond.code yJx4a65c_size_8abf5 cJx4a65c_size_8abf5 1 (some .int), Cond.fieldLink RJx4a65c 48 "java/util/ArrayList" "size" "I", Cond.methodLink RX6 300 yX6_giftsNow]
def wsX6_digest_r2 : List Cond := [Cond.instanceMethod yX6_giftsNow, Cond.selects RX6 yX6_giftsNow yX6_giftsNow, Cond.code yX6_giftsNow cX6_giftsNow 4 (some .int), Cond.classLink RX6 171 "Tureenlist$Gift", Cond.fieldLink RX6 297 "Tureenlist$Gift" "state" "I", Cond.methodLink RX6 122 yJx4a65c_get_915e3, Cond.instanceMethod yJx4a65c_get_915e3, Cond.selects RJx4a65c yJx4a65c_get_915e3 yJx4a65c_get_915e3, Cond.code yJx4a65c_get_915e3 cJx4a65c_get_915e3 2 (some (.object "java/lang/Object")), Cond.methodLink RJx4a65c 118 yJ15_checkIndex_7cf53, Cond.static yJ15_checkIndex_7cf53, Cond.initialized RJ15, Cond.code yJ15_checkIndex_7cf53 cJ15_checkIndex_7cf53 2 (some .int), Cond.methodLink RJ15 105 yJ3_checkIndex_8e157, Cond.static yJ3_checkIndex_8e157, Cond.initialized RJ3, Cond.code yJ3_checkIndex_8e157 cJ3_checkIndex_8e157 3 (some .int), Cond.methodLink RJx4a65c 123 yJx4a65c_elementData_915e3, Cond.instanceMethod yJx4a65c_elementData_915e3, Cond.selects RJx4a65c yJx4a65c_elementData_915e3 yJx4a65c_elementData_915e3, Cond.code yJx4a65c_elementData_915e3 cJx4a65c_elementData_915e3 2 (some (.object "java/lang/Object")), Cond.fieldLink RJx4a65c 9 "java/util/ArrayList" "elementData" "[Ljava/lang/Object;", Cond.methodLink RX6 235 yX6_oneIf, Cond.static yX6_oneIf]
def wsX6_digest_r3 : List Cond := [Cond.code yX6_oneIf cX6_oneIf 1 (some .int), Cond.methodLink RX6 226 yX6_holdsStanding, Cond.instanceMethod yX6_holdsStanding, Cond.selects RX6 yX6_holdsStanding yX6_holdsStanding, Cond.code yX6_holdsStanding cX6_holdsStanding 3 (some .int), Cond.classLink RX6 143 "Tureenlist$Hold", Cond.methodLink RX6 435 yX3_standsAt, Cond.instanceMethod yX3_standsAt, Cond.selects RX3 yX3_standsAt yX3_standsAt, Cond.initialized RX3, Cond.code yX3_standsAt cX3_standsAt 2 (some .boolean), Cond.fieldLink RX3 13 "Tureenlist$Hold" "used" "Z", Cond.fieldLink RX3 17 "Tureenlist$Hold" "of" "LTureenlist$Wish;", Cond.sameField "Tureenlist$Hold" "Tureenlist$Deed" "of" "LTureenlist$Wish;", Cond.fieldLink RX3 21 "Tureenlist$Wish" "struck" "Z", Cond.fieldLink RX3 26 "Tureenlist$Hold" "since" "I", Cond.sameField "Tureenlist$Hold" "Tureenlist$Deed" "since" "I", Cond.fieldLink RX3 7 "Tureenlist$Hold" "minutes" "I", Cond.methodLink RX6 365 yX6_ofWish, Cond.instanceMethod yX6_ofWish, Cond.selects RX6 yX6_ofWish yX6_ofWish, Cond.code yX6_ofWish cX6_ofWish 4 (some .int), Cond.fieldLink RX6 232 "Tureenlist$Wish" "count" "I", Cond.fieldLink RX6 88 "Tureenlist$Wish" "cost" "I"]
def wsX6_digest_r4 : List Cond := [Cond.fieldLink RX6 78 "Tureenlist$Wish" "forMany" "Z", Cond.fieldLink RX6 98 "Tureenlist$Wish" "struck" "Z", Cond.methodLink RX6 74 yX6_wishNumbered, Cond.instanceMethod yX6_wishNumbered, Cond.selects RX6 yX6_wishNumbered yX6_wishNumbered, Cond.code yX6_wishNumbered cX6_wishNumbered 2 (some (.object "Tureenlist$Wish")), Cond.classLink RX6 284 "java/lang/IndexOutOfBoundsException", Cond.initialized "java/lang/IndexOutOfBoundsException", Cond.classLink RX6 56 "Tureenlist$Wish", Cond.methodLink RX6 239 yX6_giftsOf, Cond.instanceMethod yX6_giftsOf, Cond.selects RX6 yX6_giftsOf yX6_giftsOf, Cond.code yX6_giftsOf cX6_giftsOf 6 (some .int), Cond.fieldLink RX6 185 "Tureenlist$Gift" "of" "LTureenlist$Wish;", Cond.sameField "Tureenlist$Gift" "Tureenlist$Deed" "of" "LTureenlist$Wish;", Cond.methodLink RX6 91 yX5_pledged, Cond.instanceMethod yX5_pledged, Cond.selects RX5 yX5_pledged yX5_pledged, Cond.initialized RX5, Cond.code yX5_pledged cX5_pledged 3 (some .int), Cond.fieldLink RX5 26 "Tureenlist$Wish" "pledges" "Ljava/util/ArrayList;", Cond.classLink RX5 38 "Tureenlist$Pledge", Cond.fieldLink RX5 40 "Tureenlist$Pledge" "pence" "I", Cond.methodLink RX5 30 yJx4a65c_size_8abf5]
def wsX6_digest_r5 : List Cond := [Cond.methodLink RX5 34 yJx4a65c_get_915e3, Cond.methodLink RX6 206 yX5_lacking, Cond.instanceMethod yX5_lacking, Cond.selects RX5 yX5_lacking yX5_lacking, Cond.code yX5_lacking cX5_lacking 1 (some .int), Cond.fieldLink RX5 19 "Tureenlist$Wish" "forMany" "Z", Cond.fieldLink RX5 16 "Tureenlist$Wish" "cost" "I", Cond.methodLink RX5 50 Lib.Math.max.name, Cond.static Lib.Math.max.name, Cond.initialized "java/lang/Math", Cond.code Lib.Math.max.name Lib.Math.max.code 2 (some .int), Cond.methodLink RX5 47 yX5_pledged, Cond.methodLink RX6 242 yX5_isOrdered, Cond.instanceMethod yX5_isOrdered, Cond.selects RX5 yX5_isOrdered yX5_isOrdered, Cond.code yX5_isOrdered cX5_isOrdered 1 (some .boolean), Cond.methodLink RX5 56 yX5_lacking, Cond.methodLink RX6 368 yX6_ofGuest, Cond.instanceMethod yX6_ofGuest, Cond.selects RX6 yX6_ofGuest yX6_ofGuest, Cond.code yX6_ofGuest cX6_ofGuest 4 (some .int), Cond.fieldLink RX6 158 "Tureenlist$Guest" "purse" "I", Cond.methodLink RX6 129 yX6_guestNumbered, Cond.instanceMethod yX6_guestNumbered]
def wsX6_digest_r6 : List Cond := [Cond.selects RX6 yX6_guestNumbered yX6_guestNumbered, Cond.code yX6_guestNumbered cX6_guestNumbered 2 (some (.object "Tureenlist$Guest")), Cond.classLink RX6 69 "Tureenlist$Guest", Cond.methodLink RX6 247 yX6_giftsBy, Cond.instanceMethod yX6_giftsBy, Cond.selects RX6 yX6_giftsBy yX6_giftsBy, Cond.code yX6_giftsBy cX6_giftsBy 6 (some .int), Cond.fieldLink RX6 181 "Tureenlist$Gift" "by" "LTureenlist$Guest;", Cond.sameField "Tureenlist$Gift" "Tureenlist$Deed" "by" "LTureenlist$Guest;", Cond.methodLink RX6 251 yX6_paidForKeptBy, Cond.instanceMethod yX6_paidForKeptBy, Cond.selects RX6 yX6_paidForKeptBy yX6_paidForKeptBy, Cond.code yX6_paidForKeptBy cX6_paidForKeptBy 5 (some .int), Cond.fieldLink RX6 294 "Tureenlist$Gift" "paid" "I", Cond.methodLink RX6 177 yX1_isKept, Cond.instanceMethod yX1_isKept, Cond.selects RX1 yX1_isKept yX1_isKept, Cond.initialized RX1, Cond.code yX1_isKept cX1_isKept 1 (some .boolean), Cond.fieldLink RX1 18 "Tureenlist$Gift" "state" "I", Cond.methodLink RX6 255 yX6_pledgedBy, Cond.instanceMethod yX6_pledgedBy, Cond.selects RX6 yX6_pledgedBy yX6_pledgedBy, Cond.code yX6_pledgedBy cX6_pledgedBy 4 (some .int)]
def wsX6_digest_r7 : List Cond := [Cond.methodLink RX6 324 yX5_pledgedBy, Cond.instanceMethod yX5_pledgedBy, Cond.selects RX5 yX5_pledgedBy yX5_pledgedBy, Cond.code yX5_pledgedBy cX5_pledgedBy 5 (some .int), Cond.fieldLink RX5 43 "Tureenlist$Pledge" "by" "LTureenlist$Guest;", Cond.methodLink RX6 258 yX6_holdsStandingOf, Cond.instanceMethod yX6_holdsStandingOf, Cond.selects RX6 yX6_holdsStandingOf yX6_holdsStandingOf, Cond.code yX6_holdsStandingOf cX6_holdsStandingOf 5 (some .int), Cond.fieldLink RX6 448 "Tureenlist$Hold" "by" "LTureenlist$Guest;", Cond.sameField "Tureenlist$Hold" "Tureenlist$Deed" "by" "LTureenlist$Guest;", Cond.methodLink RX6 371 yX6_digestTill, Cond.instanceMethod yX6_digestTill, Cond.selects RX6 yX6_digestTill yX6_digestTill, Cond.code yX6_digestTill cX6_digestTill 7 (some .long), Cond.methodLink RX6 381 yX6_ofTill, Cond.instanceMethod yX6_ofTill, Cond.selects RX6 yX6_ofTill yX6_ofTill, Cond.code yX6_ofTill cX6_ofTill 3 (some .int), Cond.methodLink RX6 101 yX6_checkTill, Cond.static yX6_checkTill, Cond.code yX6_checkTill cX6_checkTill 1 none, Cond.methodLink RX6 105 yX6_isJoined, Cond.instanceMethod yX6_isJoined]
def wsX6_digest_r8 : List Cond := [Cond.selects RX6 yX6_isJoined yX6_isJoined, Cond.code yX6_isJoined cX6_isJoined 2 (some .boolean), Cond.fieldLink RX6 25 "Tureenlist" "joined" "I", Cond.methodLink RX6 263 yX6_keptBoughtAt, Cond.instanceMethod yX6_keptBoughtAt, Cond.selects RX6 yX6_keptBoughtAt yX6_keptBoughtAt, Cond.code yX6_keptBoughtAt cX6_keptBoughtAt 5 (some .int), Cond.fieldLink RX6 291 "Tureenlist$Gift" "till" "I", Cond.sameField "Tureenlist$Gift" "Tureenlist$Deed" "till" "I", Cond.methodLink RX6 266 yX6_holdsStandingSeenAt, Cond.instanceMethod yX6_holdsStandingSeenAt, Cond.selects RX6 yX6_holdsStandingSeenAt yX6_holdsStandingSeenAt, Cond.code yX6_holdsStandingSeenAt cX6_holdsStandingSeenAt 5 (some .int), Cond.methodLink RX6 438 ⟨"Tureenlist$Hold", "isSeenAt", "(I)Z"⟩, Cond.sameMethod "Tureenlist$Hold" "Tureenlist$Deed" "isSeenAt" "(I)Z", Cond.selects RX3 ⟨"Tureenlist$Hold", "isSeenAt", "(I)Z"⟩ yX0_isSeenAt, Cond.instanceMethod yX0_isSeenAt, Cond.initialized RX0, Cond.code yX0_isSeenAt cX0_isSeenAt 2 (some .boolean), Cond.fieldLink RX0 24 "Tureenlist$Deed" "seers" "I", Cond.methodLink RX6 269 yX6_keptSeenAt, Cond.instanceMethod yX6_keptSeenAt, Cond.selects RX6 yX6_keptSeenAt yX6_keptSeenAt, Cond.code yX6_keptSeenAt cX6_keptSeenAt 5 (some .int)]
def wsX6_digest_r9 : List Cond := [Cond.methodLink RX6 428 ⟨"Tureenlist$Gift", "isSeenAt", "(I)Z"⟩, Cond.sameMethod "Tureenlist$Gift" "Tureenlist$Deed" "isSeenAt" "(I)Z", Cond.selects RX1 ⟨"Tureenlist$Gift", "isSeenAt", "(I)Z"⟩ yX0_isSeenAt, Cond.methodLink RX6 272 yX6_takeStock, Cond.instanceMethod yX6_takeStock, Cond.selects RX6 yX6_takeStock yX6_takeStock, Cond.code yX6_takeStock cX6_takeStock 4 none, Cond.fieldLink RX6 337 "Tureenlist$Wish" "stock" "I", Cond.methodLink RX6 137 yX6_leftAt, Cond.instanceMethod yX6_leftAt, Cond.selects RX6 yX6_leftAt yX6_leftAt, Cond.code yX6_leftAt cX6_leftAt 6 (some .int), Cond.fieldLink RX6 434 "Tureenlist$Hold" "of" "LTureenlist$Wish;", Cond.methodLink RX6 408 Lib.Math.max.name, Cond.methodLink RX6 431 yX6_keptOfSeenAt, Cond.instanceMethod yX6_keptOfSeenAt, Cond.selects RX6 yX6_keptOfSeenAt yX6_keptOfSeenAt, Cond.code yX6_keptOfSeenAt cX6_keptOfSeenAt 6 (some .int), Cond.methodLink RX6 275 yX6_guestsWithoutPart, Cond.instanceMethod yX6_guestsWithoutPart, Cond.selects RX6 yX6_guestsWithoutPart yX6_guestsWithoutPart, Cond.code yX6_guestsWithoutPart cX6_guestsWithoutPart 4 (some .int), Cond.methodLink RX6 278 yX6_fillBy, Cond.instanceMethod yX6_fillBy]
def wsX6_digest_r10 : List Cond := [Cond.selects RX6 yX6_fillBy yX6_fillBy, Cond.code yX6_fillBy cX6_fillBy 6 (some .int), Cond.methodLink RX6 209 Lib.Math.min.name, Cond.static Lib.Math.min.name, Cond.code Lib.Math.min.name Lib.Math.min.code 2 (some .int), Cond.methodLink RX6 111 yJ6_bitCount_0f7a4, Cond.static yJ6_bitCount_0f7a4, Cond.initialized RJ6, Cond.code yJ6_bitCount_0f7a4 cJ6_bitCount_0f7a4 1 (some .int), Cond.constant RJ6 265 (1431655765), Cond.constant RJ6 266 (858993459), Cond.constant RJ6 267 (252645135), Cond.methodLink RX6 449 yX6_buyersAbove, Cond.instanceMethod yX6_buyersAbove, Cond.selects RX6 yX6_buyersAbove yX6_buyersAbove, Cond.code yX6_buyersAbove cX6_buyersAbove 5 (some .int), Cond.methodLink RX6 452 yX6_stockWithin, Cond.instanceMethod yX6_stockWithin, Cond.selects RX6 yX6_stockWithin yX6_stockWithin, Cond.code yX6_stockWithin cX6_stockWithin 6 (some .int), Cond.methodLink RX6 281 yX6_allLeftAt, Cond.instanceMethod yX6_allLeftAt, Cond.selects RX6 yX6_allLeftAt yX6_allLeftAt, Cond.code yX6_allLeftAt cX6_allLeftAt 4 (some .int)]
def wsX6_digest_r11 : List Cond := [Cond.methodLink RX6 384 yX6_left, Cond.instanceMethod yX6_left, Cond.selects RX6 yX6_left yX6_left, Cond.code yX6_left cX6_left 3 (some .int), Cond.methodLink RX6 387 yX6_hint, Cond.instanceMethod yX6_hint, Cond.selects RX6 yX6_hint yX6_hint, Cond.code yX6_hint cX6_hint 12 (some .int), Cond.fieldLink RX6 290 "Tureenlist$Guest" "number" "I", Cond.methodLink RX6 390 yX6_wouldTake, Cond.instanceMethod yX6_wouldTake, Cond.selects RX6 yX6_wouldTake yX6_wouldTake, Cond.code yX6_wouldTake cX6_wouldTake 4 (some .int), Cond.methodLink RX6 334 yX6_tooManyWith, Cond.instanceMethod yX6_tooManyWith, Cond.selects RX6 yX6_tooManyWith yX6_tooManyWith, Cond.code yX6_tooManyWith cX6_tooManyWith 6 (some .int), Cond.methodLink RX6 418 ⟨"Tureenlist$Gift", "isOpen", "()Z"⟩, Cond.sameMethod "Tureenlist$Gift" "Tureenlist$Deed" "isOpen" "()Z", Cond.selects RX1 ⟨"Tureenlist$Gift", "isOpen", "()Z"⟩ yX0_isOpen, Cond.instanceMethod yX0_isOpen, Cond.code yX0_isOpen cX0_isOpen 1 (some .boolean), Cond.fieldLink RX0 27 "Tureenlist$Deed" "open" "Z", Cond.methodLink RX6 375 yX6_ofGift]
def wsX6_digest_r12 : List Cond := [Cond.instanceMethod yX6_ofGift, Cond.selects RX6 yX6_ofGift yX6_ofGift, Cond.code yX6_ofGift cX6_ofGift 4 (some .int), Cond.fieldLink RX6 287 "Tureenlist$Wish" "number" "I", Cond.fieldLink RX6 189 "Tureenlist$Gift" "since" "I", Cond.sameField "Tureenlist$Gift" "Tureenlist$Deed" "since" "I", Cond.methodLink RX6 378 yX6_isSound, Cond.instanceMethod yX6_isSound, Cond.selects RX6 yX6_isSound yX6_isSound, Cond.code yX6_isSound cX6_isSound 1 (some .boolean), Cond.methodLink RX6 340 yX6_noneTooManyIfAllJoined, Cond.instanceMethod yX6_noneTooManyIfAllJoined, Cond.selects RX6 yX6_noneTooManyIfAllJoined yX6_noneTooManyIfAllJoined, Cond.code yX6_noneTooManyIfAllJoined cX6_noneTooManyIfAllJoined 3 (some .boolean), Cond.methodLink RX6 343 yX6_paidForKept, Cond.instanceMethod yX6_paidForKept, Cond.selects RX6 yX6_paidForKept yX6_paidForKept, Cond.code yX6_paidForKept cX6_paidForKept 3 (some .int), Cond.methodLink RX6 346 yX6_pledgedNow, Cond.instanceMethod yX6_pledgedNow, Cond.selects RX6 yX6_pledgedNow yX6_pledgedNow, Cond.code yX6_pledgedNow cX6_pledgedNow 3 (some .int), Cond.methodLink RX6 349 yX6_noPurseBelowZero, Cond.instanceMethod yX6_noPurseBelowZero]
def wsX6_digest_r13 : List Cond := [Cond.selects RX6 yX6_noPurseBelowZero yX6_noPurseBelowZero, Cond.code yX6_noPurseBelowZero cX6_noPurseBelowZero 2 (some .boolean), Cond.methodLink RX6 352 yX6_noOrderedLacks, Cond.instanceMethod yX6_noOrderedLacks, Cond.selects RX6 yX6_noOrderedLacks yX6_noOrderedLacks, Cond.code yX6_noOrderedLacks cX6_noOrderedLacks 3 (some .boolean), Cond.methodLink RX6 355 yX6_joinedTillsSeeAlike, Cond.instanceMethod yX6_joinedTillsSeeAlike, Cond.selects RX6 yX6_joinedTillsSeeAlike yX6_joinedTillsSeeAlike, Cond.code yX6_joinedTillsSeeAlike cX6_joinedTillsSeeAlike 4 (some .boolean)]
def wsX6_digest : List Cond := .code yX6_digest cX6_digest 5 (some .long) :: ((wsX6_digest_r1 ++ (wsX6_digest_r2 ++ (wsX6_digest_r3 ++ (wsX6_digest_r4 ++ (wsX6_digest_r5 ++ (wsX6_digest_r6 ++ (wsX6_digest_r7 ++ (wsX6_digest_r8 ++ (wsX6_digest_r9 ++ (wsX6_digest_r10 ++ (wsX6_digest_r11 ++ (wsX6_digest_r12 ++ wsX6_digest_r13)))))))))))) ++ wsX60 ++ wsJx4a65c0 ++ wsX10 ++ wsX30 ++ wsX50 ++ wsX40 ++ wsX20 ++ (vx_atS RX6 33 "java/lang/IllegalArgumentException" ["java/lang/RuntimeException", "java/lang/Exception"]).filter goodWord ++ (vx_atS RX6 286 "java/lang/IndexOutOfBoundsException" ["java/lang/RuntimeException", "java/lang/Exception"]).filter goodWord)
def wsJ9_max_7cf53 : List Cond := .code yJ9_max_7cf53 cJ9_max_7cf53 2 (some .int) :: ([])
def wsJ9_min_7cf53 : List Cond := .code yJ9_min_7cf53 cJ9_min_7cf53 2 (some .int) :: ([])
def wsL_below : List Cond := .code yL_below cL_below 2 (some .int) :: ([.constant RL 7 (2147483647)])
def wsL_cell : List Cond := .code yL_cell cL_cell 2 (some .int) :: ([.constant RL 8 (790386105)])
def wsL_shop_r1 : List Cond := [Cond.classLink RL 9 RX6, Cond.instantiable RX6 9, Cond.initialized RX6, Cond.methodLink RL 11 yX6_init, Cond.instanceMethod yX6_init, Cond.code yX6_init cX6_init 1 none, Cond.methodLink RX6 3 objectInit, Cond.instanceMethod objectInit, Cond.code objectInit ⟨#[0xb1]⟩ 1 none, Cond.classLink RX6 9 RJx4a65c, Cond.instantiable RJx4a65c 3, Cond.initialized RJx4a65c, Cond.fieldLink RX6 12 "Tureenlist" "wishes" "Ljava/util/ArrayList;", Cond.fieldLink RX6 16 "Tureenlist" "guests" "Ljava/util/ArrayList;", Cond.fieldLink RX6 19 "Tureenlist" "gifts" "Ljava/util/ArrayList;", Cond.fieldLink RX6 22 "Tureenlist" "holds" "Ljava/util/ArrayList;", Cond.fieldLink RX6 25 "Tureenlist" "joined" "I", Cond.methodLink RX6 11 yJx4a65c_init_da8c8, Cond.instanceMethod yJx4a65c_init_da8c8, Cond.code yJx4a65c_init_da8c8 cJx4a65c_init_da8c8 1 none, Cond.fieldLink RJx4a65c 39 "java/util/ArrayList" "DEFAULTCAPACITY_EMPTY_ELEMENTDATA" "[Ljava/lang/Object;", Cond.fieldLink RJx4a65c 9 "java/util/ArrayList" "elementData" "[Ljava/lang/Object;", Cond.methodLink RJx4a65c 1 yJxc12de_init_da8c8, Cond.instanceMethod yJxc12de_init_da8c8]
def wsL_shop_r2 : List Cond := [Cond.initialized RJxc12de, Cond.code yJxc12de_init_da8c8 cJxc12de_init_da8c8 1 none, Cond.fieldLink RJxc12de 7 "java/util/AbstractList" "modCount" "I", Cond.methodLink RJxc12de 1 yJxa1e45_init_da8c8, Cond.instanceMethod yJxa1e45_init_da8c8, Cond.initialized RJxa1e45, Cond.code yJxa1e45_init_da8c8 cJxa1e45_init_da8c8 1 none, Cond.methodLink RJxa1e45 1 objectInit, Cond.methodLink RL 12 yL_cell, Cond.static yL_cell, Cond.initialized RL, Cond.code yL_cell cL_cell 2 (some .int), Cond.constant RL 8 (790386105), Cond.methodLink RL 18 yL_below, Cond.static yL_below, Cond.code yL_below cL_below 2 (some .int), Cond.constant RL 7 (2147483647), Cond.methodLink RL 22 yX6_shared, Cond.instanceMethod yX6_shared, Cond.selects RX6 yX6_shared yX6_shared, Cond.code yX6_shared cX6_shared 2 (some .int), Cond.classLink RX6 29 "java/lang/IllegalArgumentException", Cond.initialized "java/lang/IllegalArgumentException", Cond.methodLink RX6 38 yX6_addWish]
def wsL_shop_r3 : List Cond := [Cond.instanceMethod yX6_addWish, Cond.selects RX6 yX6_addWish yX6_addWish, Cond.code yX6_addWish cX6_addWish 5 (some .int), Cond.classLink RX6 51 "java/lang/IllegalStateException", Cond.initialized "java/lang/IllegalStateException", Cond.classLink RX6 56 RX5, Cond.instantiable RX5 7, Cond.initialized RX5, Cond.methodLink RX6 44 yX6_refuseIfCalledOff, Cond.instanceMethod yX6_refuseIfCalledOff, Cond.selects RX6 yX6_refuseIfCalledOff yX6_refuseIfCalledOff, Cond.code yX6_refuseIfCalledOff cX6_refuseIfCalledOff 1 none, Cond.fieldLink RX6 229 "Tureenlist" "calledOff" "Z", Cond.methodLink RX6 47 yJx4a65c_size_8abf5, Cond.instanceMethod yJx4a65c_size_8abf5, Cond.selects RJx4a65c yJx4a65c_size_8abf5 yJx4a65c_size_8abf5, Cond.code yJx4a65c_size_8abf5 cJx4a65c_size_8abf5 1 (some .int), Cond.fieldLink RJx4a65c 48 "java/util/ArrayList" "size" "I", Cond.methodLink RX6 58 yX5_init, Cond.instanceMethod yX5_init, Cond.code yX5_init cX5_init 5 none, Cond.methodLink RX5 1 objectInit, Cond.fieldLink RX5 7 "Tureenlist$Wish" "number" "I", Cond.fieldLink RX5 13 "Tureenlist$Wish" "count" "I"]
def wsL_shop_r4 : List Cond := [Cond.fieldLink RX5 16 "Tureenlist$Wish" "cost" "I", Cond.fieldLink RX5 19 "Tureenlist$Wish" "forMany" "Z", Cond.classLink RX5 23 RJx4a65c, Cond.fieldLink RX5 26 "Tureenlist$Wish" "pledges" "Ljava/util/ArrayList;", Cond.methodLink RX5 25 yJx4a65c_init_da8c8, Cond.methodLink RX6 61 yJx4a65c_add_9ea2d, Cond.instanceMethod yJx4a65c_add_9ea2d, Cond.selects RJx4a65c yJx4a65c_add_9ea2d yJx4a65c_add_9ea2d, Cond.code yJx4a65c_add_9ea2d cJx4a65c_add_9ea2d 2 (some .boolean), Cond.fieldLink RJx4a65c 63 "java/util/ArrayList" "modCount" "I", Cond.sameField "java/util/ArrayList" "java/util/AbstractList" "modCount" "I", Cond.methodLink RJx4a65c 131 yJx4a65c_add_72be8, Cond.instanceMethod yJx4a65c_add_72be8, Cond.selects RJx4a65c yJx4a65c_add_72be8 yJx4a65c_add_72be8, Cond.code yJx4a65c_add_72be8 cJx4a65c_add_72be8 4 none, Cond.methodLink RJx4a65c 129 yJx4a65c_grow_d5877, Cond.instanceMethod yJx4a65c_grow_d5877, Cond.selects RJx4a65c yJx4a65c_grow_d5877 yJx4a65c_grow_d5877, Cond.code yJx4a65c_grow_d5877 cJx4a65c_grow_d5877 1 (some (.array (.object "java/lang/Object"))), Cond.methodLink RJx4a65c 69 yJx4a65c_grow_92f84, Cond.instanceMethod yJx4a65c_grow_92f84, Cond.selects RJx4a65c yJx4a65c_grow_92f84 yJx4a65c_grow_92f84, Cond.code yJx4a65c_grow_92f84 cJx4a65c_grow_92f84 4 (some (.array (.object "java/lang/Object"))), Cond.methodLink RJx4a65c 79 Lib.Math.max.name]
def wsL_shop_r5 : List Cond := [Cond.static Lib.Math.max.name, Cond.initialized "java/lang/Math", Cond.code Lib.Math.max.name Lib.Math.max.code 2 (some .int), Cond.classLink RJx4a65c 7 "java/lang/Object", Cond.methodLink RJx4a65c 73 yJ8_newLength_cabcc, Cond.static yJ8_newLength_cabcc, Cond.initialized RJ8, Cond.code yJ8_newLength_cabcc cJ8_newLength_cabcc 4 (some .int), Cond.methodLink RJ8 194 Lib.Math.max.name, Cond.constant RJ8 200 (2147483639), Cond.methodLink RJ8 201 yJ8_hugeLength_7cf53, Cond.static yJ8_hugeLength_7cf53, Cond.code yJ8_hugeLength_7cf53 cJ8_hugeLength_7cf53 3 (some .int), Cond.methodLink RJx4a65c 66 yJ7_copyOf_1904c, Cond.static yJ7_copyOf_1904c, Cond.initialized RJ7, Cond.code yJ7_copyOf_1904c cJ7_copyOf_1904c 2 (some (.array (.object "java/lang/Object"))), Cond.methodLink RJ7 86 ⟨"java/lang/Object", "getClass", "()Ljava/lang/Class;"⟩, Cond.selects "[Ljava/lang/Object;" ⟨"java/lang/Object", "getClass", "()Ljava/lang/Class;"⟩ ⟨"java/lang/Object", "getClass", "()Ljava/lang/Class;"⟩, Cond.instanceMethod ⟨"java/lang/Object", "getClass", "()Ljava/lang/Class;"⟩, Cond.native ⟨"java/lang/Object", "getClass", "()Ljava/lang/Class;"⟩, Cond.methodLink RJ7 300 yJ7_copyOf_6403c, Cond.static yJ7_copyOf_6403c, Cond.code yJ7_copyOf_6403c cJ7_copyOf_6403c 4 (some (.array (.object "java/lang/Object")))]
def wsL_shop_r6 : List Cond := [Cond.classLink RJ7 110 "[Ljava/lang/Object;", Cond.classLink RJ7 2 "java/lang/Object", Cond.methodLink RJ7 304 Lib.Math.min.name, Cond.static Lib.Math.min.name, Cond.code Lib.Math.min.name Lib.Math.min.code 2 (some .int), Cond.methodLink RJ7 150 arraycopyName, Cond.native arraycopyName, Cond.static arraycopyName, Cond.initialized "java/lang/System", Cond.methodLink RL 26 yX6_wish, Cond.instanceMethod yX6_wish, Cond.selects RX6 yX6_wish yX6_wish, Cond.code yX6_wish cX6_wish 3 (some .int), Cond.methodLink RL 29 yX6_guest, Cond.instanceMethod yX6_guest, Cond.selects RX6 yX6_guest yX6_guest, Cond.code yX6_guest cX6_guest 3 (some .int), Cond.classLink RX6 69 RX2, Cond.instantiable RX2 2, Cond.initialized RX2, Cond.methodLink RX6 71 yX2_init, Cond.instanceMethod yX2_init, Cond.code yX2_init cX2_init 3 none, Cond.methodLink RX2 1 objectInit]
def wsL_shop_r7 : List Cond := [Cond.fieldLink RX2 7 "Tureenlist$Guest" "number" "I", Cond.fieldLink RX2 13 "Tureenlist$Guest" "purse" "I"]
def wsL_shop : List Cond := .code yL_shop cL_shop 5 (some (.object "Tureenlist")) :: ((wsL_shop_r1 ++ (wsL_shop_r2 ++ (wsL_shop_r3 ++ (wsL_shop_r4 ++ (wsL_shop_r5 ++ (wsL_shop_r6 ++ wsL_shop_r7)))))) ++ wsX60 ++ wsJx4a65c0 ++ wsX50 ++ wsX20 ++ (vx_atS RX6 33 "java/lang/IllegalArgumentException" ["java/lang/RuntimeException", "java/lang/Exception"]).filter goodWord ++ (vx_atS RX6 55 "java/lang/IllegalStateException" ["java/lang/RuntimeException", "java/lang/Exception"]).filter goodWord)
def wsL_isDone_r1 : List Cond := [Cond.classLink RL 69 "java/lang/IllegalStateException", Cond.classLink RL 71 "java/lang/IndexOutOfBoundsException", Cond.methodLink RL 35 Lib.Math.max.name, Cond.static Lib.Math.max.name, Cond.initialized "java/lang/Math", Cond.code Lib.Math.max.name Lib.Math.max.code 2 (some .int), Cond.methodLink RL 18 yL_below, Cond.static yL_below, Cond.initialized RL, Cond.code yL_below cL_below 2 (some .int), Cond.constant RL 7 (2147483647), Cond.methodLink RL 32 yX6_shop, Cond.instanceMethod yX6_shop, Cond.selects RX6 yX6_shop yX6_shop, Cond.initialized RX6, Cond.code yX6_shop cX6_shop 2 (some .int), Cond.classLink RX6 29 "java/lang/IllegalArgumentException", Cond.initialized "java/lang/IllegalArgumentException", Cond.fieldLink RX6 145 "Tureenlist" "minute" "I", Cond.fieldLink RX6 12 "Tureenlist" "wishes" "Ljava/util/ArrayList;", Cond.fieldLink RX6 16 "Tureenlist" "guests" "Ljava/util/ArrayList;", Cond.fieldLink RX6 19 "Tureenlist" "gifts" "Ljava/util/ArrayList;", Cond.fieldLink RX6 303 "Tureenlist" "paidEver" "I", Cond.fieldLink RX6 306 "Tureenlist" "wentBackEver" "I"]
def wsL_isDone_r2 : List Cond := [Cond.fieldLink RX6 22 "Tureenlist" "holds" "Ljava/util/ArrayList;", Cond.fieldLink RX6 229 "Tureenlist" "calledOff" "Z", Cond.methodLink RX6 47 yJx4a65c_size_8abf5, Cond.instanceMethod yJx4a65c_size_8abf5, Cond.selects RJx4a65c yJx4a65c_size_8abf5 yJx4a65c_size_8abf5, Cond.initialized RJx4a65c, Cond.code yJx4a65c_size_8abf5 cJx4a65c_size_8abf5 1 (some .int), Cond.fieldLink RJx4a65c 48 "java/util/ArrayList" "size" "I", Cond.methodLink RX6 300 yX6_giftsNow, Cond.instanceMethod yX6_giftsNow, Cond.selects RX6 yX6_giftsNow yX6_giftsNow, Cond.code yX6_giftsNow cX6_giftsNow 4 (some .int), Cond.classLink RX6 171 "Tureenlist$Gift", Cond.fieldLink RX6 297 "Tureenlist$Gift" "state" "I", Cond.methodLink RX6 122 yJx4a65c_get_915e3, Cond.instanceMethod yJx4a65c_get_915e3, Cond.selects RJx4a65c yJx4a65c_get_915e3 yJx4a65c_get_915e3, Cond.code yJx4a65c_get_915e3 cJx4a65c_get_915e3 2 (some (.object "java/lang/Object")), Cond.methodLink RJx4a65c 118 yJ15_checkIndex_7cf53, Cond.static yJ15_checkIndex_7cf53, Cond.initialized RJ15, Cond.code yJ15_checkIndex_7cf53 cJ15_checkIndex_7cf53 2 (some .int), Cond.methodLink RJ15 105 yJ3_checkIndex_8e157, Cond.static yJ3_checkIndex_8e157]
def wsL_isDone_r3 : List Cond := [Cond.initialized RJ3, Cond.code yJ3_checkIndex_8e157 cJ3_checkIndex_8e157 3 (some .int), Cond.methodLink RJx4a65c 123 yJx4a65c_elementData_915e3, Cond.instanceMethod yJx4a65c_elementData_915e3, Cond.selects RJx4a65c yJx4a65c_elementData_915e3 yJx4a65c_elementData_915e3, Cond.code yJx4a65c_elementData_915e3 cJx4a65c_elementData_915e3 2 (some (.object "java/lang/Object")), Cond.fieldLink RJx4a65c 9 "java/util/ArrayList" "elementData" "[Ljava/lang/Object;", Cond.methodLink RX6 235 yX6_oneIf, Cond.static yX6_oneIf, Cond.code yX6_oneIf cX6_oneIf 1 (some .int), Cond.methodLink RX6 226 yX6_holdsStanding, Cond.instanceMethod yX6_holdsStanding, Cond.selects RX6 yX6_holdsStanding yX6_holdsStanding, Cond.code yX6_holdsStanding cX6_holdsStanding 3 (some .int), Cond.classLink RX6 143 "Tureenlist$Hold", Cond.methodLink RX6 435 yX3_standsAt, Cond.instanceMethod yX3_standsAt, Cond.selects RX3 yX3_standsAt yX3_standsAt, Cond.initialized RX3, Cond.code yX3_standsAt cX3_standsAt 2 (some .boolean), Cond.fieldLink RX3 13 "Tureenlist$Hold" "used" "Z", Cond.fieldLink RX3 17 "Tureenlist$Hold" "of" "LTureenlist$Wish;", Cond.sameField "Tureenlist$Hold" "Tureenlist$Deed" "of" "LTureenlist$Wish;", Cond.fieldLink RX3 21 "Tureenlist$Wish" "struck" "Z"]
def wsL_isDone_r4 : List Cond := [Cond.fieldLink RX3 26 "Tureenlist$Hold" "since" "I", Cond.sameField "Tureenlist$Hold" "Tureenlist$Deed" "since" "I", Cond.fieldLink RX3 7 "Tureenlist$Hold" "minutes" "I", Cond.methodLink RL 26 yX6_wish, Cond.instanceMethod yX6_wish, Cond.selects RX6 yX6_wish yX6_wish, Cond.code yX6_wish cX6_wish 3 (some .int), Cond.methodLink RX6 38 yX6_addWish, Cond.instanceMethod yX6_addWish, Cond.selects RX6 yX6_addWish yX6_addWish, Cond.code yX6_addWish cX6_addWish 5 (some .int), Cond.classLink RX6 51 "java/lang/IllegalStateException", Cond.initialized "java/lang/IllegalStateException", Cond.classLink RX6 56 RX5, Cond.instantiable RX5 7, Cond.initialized RX5, Cond.methodLink RX6 44 yX6_refuseIfCalledOff, Cond.instanceMethod yX6_refuseIfCalledOff, Cond.selects RX6 yX6_refuseIfCalledOff yX6_refuseIfCalledOff, Cond.code yX6_refuseIfCalledOff cX6_refuseIfCalledOff 1 none, Cond.methodLink RX6 58 yX5_init, Cond.instanceMethod yX5_init, Cond.code yX5_init cX5_init 5 none, Cond.methodLink RX5 1 objectInit]
def wsL_isDone_r5 : List Cond := [Cond.instanceMethod objectInit, Cond.code objectInit ⟨#[0xb1]⟩ 1 none, Cond.fieldLink RX5 7 "Tureenlist$Wish" "number" "I", Cond.fieldLink RX5 13 "Tureenlist$Wish" "count" "I", Cond.fieldLink RX5 16 "Tureenlist$Wish" "cost" "I", Cond.fieldLink RX5 19 "Tureenlist$Wish" "forMany" "Z", Cond.classLink RX5 23 RJx4a65c, Cond.instantiable RJx4a65c 3, Cond.fieldLink RX5 26 "Tureenlist$Wish" "pledges" "Ljava/util/ArrayList;", Cond.methodLink RX5 25 yJx4a65c_init_da8c8, Cond.instanceMethod yJx4a65c_init_da8c8, Cond.code yJx4a65c_init_da8c8 cJx4a65c_init_da8c8 1 none, Cond.fieldLink RJx4a65c 39 "java/util/ArrayList" "DEFAULTCAPACITY_EMPTY_ELEMENTDATA" "[Ljava/lang/Object;", Cond.methodLink RJx4a65c 1 yJxc12de_init_da8c8, Cond.instanceMethod yJxc12de_init_da8c8, Cond.initialized RJxc12de, Cond.code yJxc12de_init_da8c8 cJxc12de_init_da8c8 1 none, Cond.fieldLink RJxc12de 7 "java/util/AbstractList" "modCount" "I", Cond.methodLink RJxc12de 1 yJxa1e45_init_da8c8, Cond.instanceMethod yJxa1e45_init_da8c8, Cond.initialized RJxa1e45, Cond.code yJxa1e45_init_da8c8 cJxa1e45_init_da8c8 1 none, Cond.methodLink RJxa1e45 1 objectInit, Cond.methodLink RX6 61 yJx4a65c_add_9ea2d]
def wsL_isDone_r6 : List Cond := [Cond.instanceMethod yJx4a65c_add_9ea2d, Cond.selects RJx4a65c yJx4a65c_add_9ea2d yJx4a65c_add_9ea2d, Cond.code yJx4a65c_add_9ea2d cJx4a65c_add_9ea2d 2 (some .boolean), Cond.fieldLink RJx4a65c 63 "java/util/ArrayList" "modCount" "I", Cond.sameField "java/util/ArrayList" "java/util/AbstractList" "modCount" "I", Cond.methodLink RJx4a65c 131 yJx4a65c_add_72be8, Cond.instanceMethod yJx4a65c_add_72be8, Cond.selects RJx4a65c yJx4a65c_add_72be8 yJx4a65c_add_72be8, Cond.code yJx4a65c_add_72be8 cJx4a65c_add_72be8 4 none, Cond.methodLink RJx4a65c 129 yJx4a65c_grow_d5877, Cond.instanceMethod yJx4a65c_grow_d5877, Cond.selects RJx4a65c yJx4a65c_grow_d5877 yJx4a65c_grow_d5877, Cond.code yJx4a65c_grow_d5877 cJx4a65c_grow_d5877 1 (some (.array (.object "java/lang/Object"))), Cond.methodLink RJx4a65c 69 yJx4a65c_grow_92f84, Cond.instanceMethod yJx4a65c_grow_92f84, Cond.selects RJx4a65c yJx4a65c_grow_92f84 yJx4a65c_grow_92f84, Cond.code yJx4a65c_grow_92f84 cJx4a65c_grow_92f84 4 (some (.array (.object "java/lang/Object"))), Cond.methodLink RJx4a65c 79 Lib.Math.max.name, Cond.classLink RJx4a65c 7 "java/lang/Object", Cond.methodLink RJx4a65c 73 yJ8_newLength_cabcc, Cond.static yJ8_newLength_cabcc, Cond.initialized RJ8, Cond.code yJ8_newLength_cabcc cJ8_newLength_cabcc 4 (some .int), Cond.methodLink RJ8 194 Lib.Math.max.name]
def wsL_isDone_r7 : List Cond := [Cond.constant RJ8 200 (2147483639), Cond.methodLink RJ8 201 yJ8_hugeLength_7cf53, Cond.static yJ8_hugeLength_7cf53, Cond.code yJ8_hugeLength_7cf53 cJ8_hugeLength_7cf53 3 (some .int), Cond.methodLink RJx4a65c 66 yJ7_copyOf_1904c, Cond.static yJ7_copyOf_1904c, Cond.initialized RJ7, Cond.code yJ7_copyOf_1904c cJ7_copyOf_1904c 2 (some (.array (.object "java/lang/Object"))), Cond.methodLink RJ7 86 ⟨"java/lang/Object", "getClass", "()Ljava/lang/Class;"⟩, Cond.selects "[Ljava/lang/Object;" ⟨"java/lang/Object", "getClass", "()Ljava/lang/Class;"⟩ ⟨"java/lang/Object", "getClass", "()Ljava/lang/Class;"⟩, Cond.instanceMethod ⟨"java/lang/Object", "getClass", "()Ljava/lang/Class;"⟩, Cond.native ⟨"java/lang/Object", "getClass", "()Ljava/lang/Class;"⟩, Cond.methodLink RJ7 300 yJ7_copyOf_6403c, Cond.static yJ7_copyOf_6403c, Cond.code yJ7_copyOf_6403c cJ7_copyOf_6403c 4 (some (.array (.object "java/lang/Object"))), Cond.classLink RJ7 110 "[Ljava/lang/Object;", Cond.classLink RJ7 2 "java/lang/Object", Cond.methodLink RJ7 304 Lib.Math.min.name, Cond.static Lib.Math.min.name, Cond.code Lib.Math.min.name Lib.Math.min.code 2 (some .int), Cond.methodLink RJ7 150 arraycopyName, Cond.native arraycopyName, Cond.static arraycopyName, Cond.initialized "java/lang/System"]
def wsL_isDone_r8 : List Cond := [Cond.methodLink RL 22 yX6_shared, Cond.instanceMethod yX6_shared, Cond.selects RX6 yX6_shared yX6_shared, Cond.code yX6_shared cX6_shared 2 (some .int), Cond.methodLink RL 29 yX6_guest, Cond.instanceMethod yX6_guest, Cond.selects RX6 yX6_guest yX6_guest, Cond.code yX6_guest cX6_guest 3 (some .int), Cond.classLink RX6 69 RX2, Cond.instantiable RX2 2, Cond.initialized RX2, Cond.methodLink RX6 71 yX2_init, Cond.instanceMethod yX2_init, Cond.code yX2_init cX2_init 3 none, Cond.methodLink RX2 1 objectInit, Cond.fieldLink RX2 7 "Tureenlist$Guest" "number" "I", Cond.fieldLink RX2 13 "Tureenlist$Guest" "purse" "I", Cond.methodLink RL 40 yX6_price, Cond.instanceMethod yX6_price, Cond.selects RX6 yX6_price yX6_price, Cond.code yX6_price cX6_price 4 (some .int), Cond.fieldLink RX6 78 "Tureenlist$Wish" "forMany" "Z", Cond.fieldLink RX6 88 "Tureenlist$Wish" "cost" "I", Cond.methodLink RX6 74 yX6_wishNumbered]
def wsL_isDone_r9 : List Cond := [Cond.instanceMethod yX6_wishNumbered, Cond.selects RX6 yX6_wishNumbered yX6_wishNumbered, Cond.code yX6_wishNumbered cX6_wishNumbered 2 (some (.object "Tureenlist$Wish")), Cond.classLink RX6 284 "java/lang/IndexOutOfBoundsException", Cond.initialized "java/lang/IndexOutOfBoundsException", Cond.classLink RX6 56 "Tureenlist$Wish", Cond.methodLink RX6 84 yX6_refuseIfSettled, Cond.instanceMethod yX6_refuseIfSettled, Cond.selects RX6 yX6_refuseIfSettled yX6_refuseIfSettled, Cond.code yX6_refuseIfSettled cX6_refuseIfSettled 2 none, Cond.fieldLink RX6 98 "Tureenlist$Wish" "struck" "Z", Cond.methodLink RX6 242 yX5_isOrdered, Cond.instanceMethod yX5_isOrdered, Cond.selects RX5 yX5_isOrdered yX5_isOrdered, Cond.code yX5_isOrdered cX5_isOrdered 1 (some .boolean), Cond.methodLink RX5 56 yX5_lacking, Cond.instanceMethod yX5_lacking, Cond.selects RX5 yX5_lacking yX5_lacking, Cond.code yX5_lacking cX5_lacking 1 (some .int), Cond.methodLink RX5 50 Lib.Math.max.name, Cond.methodLink RX5 47 yX5_pledged, Cond.instanceMethod yX5_pledged, Cond.selects RX5 yX5_pledged yX5_pledged, Cond.code yX5_pledged cX5_pledged 3 (some .int)]
def wsL_isDone_r10 : List Cond := [Cond.classLink RX5 38 "Tureenlist$Pledge", Cond.fieldLink RX5 40 "Tureenlist$Pledge" "pence" "I", Cond.methodLink RX5 30 yJx4a65c_size_8abf5, Cond.methodLink RX5 34 yJx4a65c_get_915e3, Cond.methodLink RX6 91 yX5_pledged, Cond.methodLink RX6 94 yX6_sendPledgesBack, Cond.instanceMethod yX6_sendPledgesBack, Cond.selects RX6 yX6_sendPledgesBack yX6_sendPledgesBack, Cond.code yX6_sendPledgesBack cX6_sendPledgesBack 8 (some .int), Cond.methodLink RX6 408 Lib.Math.max.name, Cond.fieldLink RX6 215 "Tureenlist$Wish" "pledges" "Ljava/util/ArrayList;", Cond.classLink RX6 218 "Tureenlist$Pledge", Cond.fieldLink RX6 411 "Tureenlist$Pledge" "pence" "I", Cond.methodLink RX6 209 Lib.Math.min.name, Cond.fieldLink RX6 414 "Tureenlist$Pledge" "by" "LTureenlist$Guest;", Cond.methodLink RX6 405 yX6_payBack, Cond.instanceMethod yX6_payBack, Cond.selects RX6 yX6_payBack yX6_payBack, Cond.code yX6_payBack cX6_payBack 3 none, Cond.fieldLink RX6 158 "Tureenlist$Guest" "purse" "I", Cond.methodLink RX6 415 yJx4a65c_remove_915e3, Cond.instanceMethod yJx4a65c_remove_915e3, Cond.selects RJx4a65c yJx4a65c_remove_915e3 yJx4a65c_remove_915e3, Cond.code yJx4a65c_remove_915e3 cJx4a65c_remove_915e3 4 (some (.object "java/lang/Object"))]
def wsL_isDone_r11 : List Cond := [Cond.methodLink RJx4a65c 144 yJx4a65c_fastRemove_b59b0, Cond.instanceMethod yJx4a65c_fastRemove_b59b0, Cond.selects RJx4a65c yJx4a65c_fastRemove_b59b0 yJx4a65c_fastRemove_b59b0, Cond.code yJx4a65c_fastRemove_b59b0 cJx4a65c_fastRemove_b59b0 4 none, Cond.methodLink RJx4a65c 112 arraycopyName, Cond.methodLink RL 43 yX6_strike, Cond.instanceMethod yX6_strike, Cond.selects RX6 yX6_strike yX6_strike, Cond.code yX6_strike cX6_strike 3 (some .int), Cond.methodLink RL 46 yX6_apart, Cond.instanceMethod yX6_apart, Cond.selects RX6 yX6_apart yX6_apart, Cond.code yX6_apart cX6_apart 2 (some .int), Cond.fieldLink RX6 25 "Tureenlist" "joined" "I", Cond.methodLink RX6 101 yX6_checkTill, Cond.static yX6_checkTill, Cond.code yX6_checkTill cX6_checkTill 1 none, Cond.methodLink RX6 105 yX6_isJoined, Cond.instanceMethod yX6_isJoined, Cond.selects RX6 yX6_isJoined yX6_isJoined, Cond.code yX6_isJoined cX6_isJoined 2 (some .boolean), Cond.methodLink RX6 111 yJ6_bitCount_0f7a4, Cond.static yJ6_bitCount_0f7a4, Cond.initialized RJ6]
def wsL_isDone_r12 : List Cond := [Cond.code yJ6_bitCount_0f7a4 cJ6_bitCount_0f7a4 1 (some .int), Cond.constant RJ6 265 (1431655765), Cond.constant RJ6 266 (858993459), Cond.constant RJ6 267 (252645135), Cond.methodLink RL 49 yX6_join, Cond.instanceMethod yX6_join, Cond.selects RX6 yX6_join yX6_join, Cond.code yX6_join cX6_join 4 (some .int), Cond.methodLink RX6 119 yX6_showAllDeeds, Cond.instanceMethod yX6_showAllDeeds, Cond.selects RX6 yX6_showAllDeeds yX6_showAllDeeds, Cond.code yX6_showAllDeeds cX6_showAllDeeds 2 none, Cond.methodLink RX6 176 ⟨"Tureenlist$Gift", "showTo", "(I)V"⟩, Cond.sameMethod "Tureenlist$Gift" "Tureenlist$Deed" "showTo" "(I)V", Cond.selects RX1 ⟨"Tureenlist$Gift", "showTo", "(I)V"⟩ yX0_showTo, Cond.instanceMethod yX0_showTo, Cond.initialized RX0, Cond.code yX0_showTo cX0_showTo 2 none, Cond.fieldLink RX0 17 "Tureenlist$Deed" "till" "I", Cond.fieldLink RX0 27 "Tureenlist$Deed" "open" "Z", Cond.fieldLink RX0 24 "Tureenlist$Deed" "seers" "I", Cond.methodLink RX6 151 ⟨"Tureenlist$Hold", "showTo", "(I)V"⟩, Cond.sameMethod "Tureenlist$Hold" "Tureenlist$Deed" "showTo" "(I)V", Cond.selects RX3 ⟨"Tureenlist$Hold", "showTo", "(I)V"⟩ yX0_showTo]
def wsL_isDone_r13 : List Cond := [Cond.methodLink RX6 126 yX6_takeBackTooMany, Cond.instanceMethod yX6_takeBackTooMany, Cond.selects RX6 yX6_takeBackTooMany yX6_takeBackTooMany, Cond.code yX6_takeBackTooMany cX6_takeBackTooMany 5 (some .int), Cond.methodLink RX6 334 yX6_tooManyWith, Cond.instanceMethod yX6_tooManyWith, Cond.selects RX6 yX6_tooManyWith yX6_tooManyWith, Cond.code yX6_tooManyWith cX6_tooManyWith 6 (some .int), Cond.fieldLink RX6 185 "Tureenlist$Gift" "of" "LTureenlist$Wish;", Cond.sameField "Tureenlist$Gift" "Tureenlist$Deed" "of" "LTureenlist$Wish;", Cond.fieldLink RX6 291 "Tureenlist$Gift" "till" "I", Cond.sameField "Tureenlist$Gift" "Tureenlist$Deed" "till" "I", Cond.fieldLink RX6 232 "Tureenlist$Wish" "count" "I", Cond.methodLink RX6 177 yX1_isKept, Cond.instanceMethod yX1_isKept, Cond.selects RX1 yX1_isKept yX1_isKept, Cond.initialized RX1, Cond.code yX1_isKept cX1_isKept 1 (some .boolean), Cond.fieldLink RX1 18 "Tureenlist$Gift" "state" "I", Cond.methodLink RX6 418 ⟨"Tureenlist$Gift", "isOpen", "()Z"⟩, Cond.sameMethod "Tureenlist$Gift" "Tureenlist$Deed" "isOpen" "()Z", Cond.selects RX1 ⟨"Tureenlist$Gift", "isOpen", "()Z"⟩ yX0_isOpen, Cond.instanceMethod yX0_isOpen, Cond.code yX0_isOpen cX0_isOpen 1 (some .boolean)]
def wsL_isDone_r14 : List Cond := [Cond.methodLink RX6 421 yX6_takeBackLast, Cond.instanceMethod yX6_takeBackLast, Cond.selects RX6 yX6_takeBackLast yX6_takeBackLast, Cond.code yX6_takeBackLast cX6_takeBackLast 5 none, Cond.methodLink RX6 424 yX1_isBehind, Cond.instanceMethod yX1_isBehind, Cond.selects RX1 yX1_isBehind yX1_isBehind, Cond.code yX1_isBehind cX1_isBehind 2 (some .boolean), Cond.fieldLink RX1 21 "Tureenlist$Gift" "since" "I", Cond.sameField "Tureenlist$Gift" "Tureenlist$Deed" "since" "I", Cond.fieldLink RX1 24 "Tureenlist$Gift" "till" "I", Cond.fieldLink RX1 9 "Tureenlist$Gift" "number" "I", Cond.methodLink RX6 194 yX6_endGift, Cond.instanceMethod yX6_endGift, Cond.selects RX6 yX6_endGift yX6_endGift, Cond.code yX6_endGift cX6_endGift 3 (some .int), Cond.fieldLink RX6 181 "Tureenlist$Gift" "by" "LTureenlist$Guest;", Cond.sameField "Tureenlist$Gift" "Tureenlist$Deed" "by" "LTureenlist$Guest;", Cond.fieldLink RX6 294 "Tureenlist$Gift" "paid" "I", Cond.methodLink RL 52 yX6_hold, Cond.instanceMethod yX6_hold, Cond.selects RX6 yX6_hold yX6_hold, Cond.code yX6_hold cX6_hold 9 (some .int), Cond.classLink RX6 143 RX3]
def wsL_isDone_r15 : List Cond := [Cond.instantiable RX3 8, Cond.methodLink RX6 129 yX6_guestNumbered, Cond.instanceMethod yX6_guestNumbered, Cond.selects RX6 yX6_guestNumbered yX6_guestNumbered, Cond.code yX6_guestNumbered cX6_guestNumbered 2 (some (.object "Tureenlist$Guest")), Cond.classLink RX6 69 "Tureenlist$Guest", Cond.methodLink RX6 137 yX6_leftAt, Cond.instanceMethod yX6_leftAt, Cond.selects RX6 yX6_leftAt yX6_leftAt, Cond.code yX6_leftAt cX6_leftAt 6 (some .int), Cond.fieldLink RX6 434 "Tureenlist$Hold" "of" "LTureenlist$Wish;", Cond.methodLink RX6 431 yX6_keptOfSeenAt, Cond.instanceMethod yX6_keptOfSeenAt, Cond.selects RX6 yX6_keptOfSeenAt yX6_keptOfSeenAt, Cond.code yX6_keptOfSeenAt cX6_keptOfSeenAt 6 (some .int), Cond.methodLink RX6 428 ⟨"Tureenlist$Gift", "isSeenAt", "(I)Z"⟩, Cond.sameMethod "Tureenlist$Gift" "Tureenlist$Deed" "isSeenAt" "(I)Z", Cond.selects RX1 ⟨"Tureenlist$Gift", "isSeenAt", "(I)Z"⟩ yX0_isSeenAt, Cond.instanceMethod yX0_isSeenAt, Cond.code yX0_isSeenAt cX0_isSeenAt 2 (some .boolean), Cond.methodLink RX6 438 ⟨"Tureenlist$Hold", "isSeenAt", "(I)Z"⟩, Cond.sameMethod "Tureenlist$Hold" "Tureenlist$Deed" "isSeenAt" "(I)Z", Cond.selects RX3 ⟨"Tureenlist$Hold", "isSeenAt", "(I)Z"⟩ yX0_isSeenAt, Cond.methodLink RX6 148 yX3_init]
def wsL_isDone_r16 : List Cond := [Cond.instanceMethod yX3_init, Cond.code yX3_init cX3_init 6 none, Cond.methodLink RX3 1 yX0_init, Cond.instanceMethod yX0_init, Cond.code yX0_init cX0_init 5 none, Cond.methodLink RX0 1 objectInit, Cond.fieldLink RX0 7 "Tureenlist$Deed" "of" "LTureenlist$Wish;", Cond.fieldLink RX0 13 "Tureenlist$Deed" "by" "LTureenlist$Guest;", Cond.fieldLink RX0 21 "Tureenlist$Deed" "since" "I", Cond.methodLink RL 56 yX6_giveBack, Cond.instanceMethod yX6_giveBack, Cond.selects RX6 yX6_giveBack yX6_giveBack, Cond.code yX6_giveBack cX6_giveBack 7 (some .int), Cond.fieldLink RX6 189 "Tureenlist$Gift" "since" "I", Cond.methodLink RL 59 yX6_pledge, Cond.instanceMethod yX6_pledge, Cond.selects RX6 yX6_pledge yX6_pledge, Cond.code yX6_pledge cX6_pledge 7 (some .int), Cond.classLink RX6 218 RX4, Cond.instantiable RX4 2, Cond.initialized RX4, Cond.methodLink RX6 206 yX5_lacking, Cond.methodLink RX6 167 yX6_pay, Cond.instanceMethod yX6_pay]
def wsL_isDone_r17 : List Cond := [Cond.selects RX6 yX6_pay yX6_pay, Cond.code yX6_pay cX6_pay 3 none, Cond.methodLink RX6 220 yX4_init, Cond.instanceMethod yX4_init, Cond.code yX4_init cX4_init 3 none, Cond.methodLink RX4 1 objectInit, Cond.fieldLink RX4 7 "Tureenlist$Pledge" "by" "LTureenlist$Guest;", Cond.fieldLink RX4 13 "Tureenlist$Pledge" "pence" "I", Cond.methodLink RL 63 yX6_pass, Cond.instanceMethod yX6_pass, Cond.selects RX6 yX6_pass yX6_pass, Cond.code yX6_pass cX6_pass 2 (some .int), Cond.methodLink RL 66 yX6_buy, Cond.instanceMethod yX6_buy, Cond.selects RX6 yX6_buy yX6_buy, Cond.code yX6_buy cX6_buy 8 (some .int), Cond.classLink RX6 171 RX1, Cond.instantiable RX1 9, Cond.methodLink RX6 163 yX6_takePiece, Cond.instanceMethod yX6_takePiece, Cond.selects RX6 yX6_takePiece yX6_takePiece, Cond.code yX6_takePiece cX6_takePiece 5 none, Cond.fieldLink RX6 443 "Tureenlist$Hold" "used" "Z", Cond.methodLink RX6 439 yX6_servingHold]
def wsL_isDone_r18 : List Cond := [Cond.instanceMethod yX6_servingHold, Cond.selects RX6 yX6_servingHold yX6_servingHold, Cond.code yX6_servingHold cX6_servingHold 6 (some .int), Cond.fieldLink RX6 448 "Tureenlist$Hold" "by" "LTureenlist$Guest;", Cond.sameField "Tureenlist$Hold" "Tureenlist$Deed" "by" "LTureenlist$Guest;", Cond.methodLink RX6 173 yX1_init, Cond.instanceMethod yX1_init, Cond.code yX1_init cX1_init 7 none, Cond.fieldLink RX1 15 "Tureenlist$Gift" "paid" "I", Cond.methodLink RX1 3 yX0_init]
def wsL_isDone : List Cond := .codeWith yL_isDone cL_isDone 6 (some .boolean) [(43, 333, 334, 69), (43, 333, 338, 71)] :: ((wsL_isDone_r1 ++ (wsL_isDone_r2 ++ (wsL_isDone_r3 ++ (wsL_isDone_r4 ++ (wsL_isDone_r5 ++ (wsL_isDone_r6 ++ (wsL_isDone_r7 ++ (wsL_isDone_r8 ++ (wsL_isDone_r9 ++ (wsL_isDone_r10 ++ (wsL_isDone_r11 ++ (wsL_isDone_r12 ++ (wsL_isDone_r13 ++ (wsL_isDone_r14 ++ (wsL_isDone_r15 ++ (wsL_isDone_r16 ++ (wsL_isDone_r17 ++ wsL_isDone_r18))))))))))))))))) ++ wsX60 ++ wsJx4a65c0 ++ wsX10 ++ wsX30 ++ wsX50 ++ wsX20 ++ wsX40 ++ (vx_atS RX6 33 "java/lang/IllegalArgumentException" ["java/lang/RuntimeException", "java/lang/Exception"]).filter goodWord ++ (vx_atS RX6 55 "java/lang/IllegalStateException" ["java/lang/RuntimeException", "java/lang/Exception"]).filter goodWord ++ (vx_atS RX6 286 "java/lang/IndexOutOfBoundsException" ["java/lang/RuntimeException", "java/lang/Exception"]).filter goodWord)
def wsL_isFair_r1 : List Cond := [Cond.methodLink RL 83 yX6_ofGift, Cond.instanceMethod yX6_ofGift, Cond.selects RX6 yX6_ofGift yX6_ofGift, Cond.initialized RX6, Cond.code yX6_ofGift cX6_ofGift 4 (some .int), Cond.classLink RX6 284 "java/lang/IndexOutOfBoundsException", Cond.initialized "java/lang/IndexOutOfBoundsException", Cond.classLink RX6 29 "java/lang/IllegalArgumentException", Cond.initialized "java/lang/IllegalArgumentException", Cond.fieldLink RX6 19 "Tureenlist" "gifts" "Ljava/util/ArrayList;", Cond.classLink RX6 171 "Tureenlist$Gift", Cond.fieldLink RX6 185 "Tureenlist$Gift" "of" "LTureenlist$Wish;", Cond.sameField "Tureenlist$Gift" "Tureenlist$Deed" "of" "LTureenlist$Wish;", Cond.fieldLink RX6 287 "Tureenlist$Wish" "number" "I", Cond.fieldLink RX6 181 "Tureenlist$Gift" "by" "LTureenlist$Guest;", Cond.sameField "Tureenlist$Gift" "Tureenlist$Deed" "by" "LTureenlist$Guest;", Cond.fieldLink RX6 290 "Tureenlist$Guest" "number" "I", Cond.fieldLink RX6 291 "Tureenlist$Gift" "till" "I", Cond.sameField "Tureenlist$Gift" "Tureenlist$Deed" "till" "I", Cond.fieldLink RX6 189 "Tureenlist$Gift" "since" "I", Cond.sameField "Tureenlist$Gift" "Tureenlist$Deed" "since" "I", Cond.fieldLink RX6 294 "Tureenlist$Gift" "paid" "I", Cond.fieldLink RX6 297 "Tureenlist$Gift" "state" "I", Cond.methodLink RX6 47 yJx4a65c_size_8abf5]
def wsL_isFair_r2 : List Cond := [Cond.instanceMethod yJx4a65c_size_8abf5, Cond.selects RJx4a65c yJx4a65c_size_8abf5 yJx4a65c_size_8abf5, Cond.initialized RJx4a65c, Cond.code yJx4a65c_size_8abf5 cJx4a65c_size_8abf5 1 (some .int), Cond.fieldLink RJx4a65c 48 "java/util/ArrayList" "size" "I", Cond.methodLink RX6 122 yJx4a65c_get_915e3, Cond.instanceMethod yJx4a65c_get_915e3, Cond.selects RJx4a65c yJx4a65c_get_915e3 yJx4a65c_get_915e3, Cond.code yJx4a65c_get_915e3 cJx4a65c_get_915e3 2 (some (.object "java/lang/Object")), Cond.methodLink RJx4a65c 118 yJ15_checkIndex_7cf53, Cond.static yJ15_checkIndex_7cf53, Cond.initialized RJ15, Cond.code yJ15_checkIndex_7cf53 cJ15_checkIndex_7cf53 2 (some .int), Cond.methodLink RJ15 105 yJ3_checkIndex_8e157, Cond.static yJ3_checkIndex_8e157, Cond.initialized RJ3, Cond.code yJ3_checkIndex_8e157 cJ3_checkIndex_8e157 3 (some .int), Cond.methodLink RJx4a65c 123 yJx4a65c_elementData_915e3, Cond.instanceMethod yJx4a65c_elementData_915e3, Cond.selects RJx4a65c yJx4a65c_elementData_915e3 yJx4a65c_elementData_915e3, Cond.code yJx4a65c_elementData_915e3 cJx4a65c_elementData_915e3 2 (some (.object "java/lang/Object")), Cond.fieldLink RJx4a65c 9 "java/util/ArrayList" "elementData" "[Ljava/lang/Object;", Cond.methodLink RL 102 yX6_ofTill, Cond.instanceMethod yX6_ofTill]
def wsL_isFair_r3 : List Cond := [Cond.selects RX6 yX6_ofTill yX6_ofTill, Cond.code yX6_ofTill cX6_ofTill 3 (some .int), Cond.methodLink RX6 101 yX6_checkTill, Cond.static yX6_checkTill, Cond.code yX6_checkTill cX6_checkTill 1 none, Cond.methodLink RX6 105 yX6_isJoined, Cond.instanceMethod yX6_isJoined, Cond.selects RX6 yX6_isJoined yX6_isJoined, Cond.code yX6_isJoined cX6_isJoined 2 (some .boolean), Cond.fieldLink RX6 25 "Tureenlist" "joined" "I", Cond.methodLink RX6 235 yX6_oneIf, Cond.static yX6_oneIf, Cond.code yX6_oneIf cX6_oneIf 1 (some .int), Cond.methodLink RX6 263 yX6_keptBoughtAt, Cond.instanceMethod yX6_keptBoughtAt, Cond.selects RX6 yX6_keptBoughtAt yX6_keptBoughtAt, Cond.code yX6_keptBoughtAt cX6_keptBoughtAt 5 (some .int), Cond.methodLink RX6 177 yX1_isKept, Cond.instanceMethod yX1_isKept, Cond.selects RX1 yX1_isKept yX1_isKept, Cond.initialized RX1, Cond.code yX1_isKept cX1_isKept 1 (some .boolean), Cond.fieldLink RX1 18 "Tureenlist$Gift" "state" "I", Cond.methodLink RX6 266 yX6_holdsStandingSeenAt]
def wsL_isFair_r4 : List Cond := [Cond.instanceMethod yX6_holdsStandingSeenAt, Cond.selects RX6 yX6_holdsStandingSeenAt yX6_holdsStandingSeenAt, Cond.code yX6_holdsStandingSeenAt cX6_holdsStandingSeenAt 5 (some .int), Cond.fieldLink RX6 22 "Tureenlist" "holds" "Ljava/util/ArrayList;", Cond.classLink RX6 143 "Tureenlist$Hold", Cond.fieldLink RX6 145 "Tureenlist" "minute" "I", Cond.methodLink RX6 435 yX3_standsAt, Cond.instanceMethod yX3_standsAt, Cond.selects RX3 yX3_standsAt yX3_standsAt, Cond.initialized RX3, Cond.code yX3_standsAt cX3_standsAt 2 (some .boolean), Cond.fieldLink RX3 13 "Tureenlist$Hold" "used" "Z", Cond.fieldLink RX3 17 "Tureenlist$Hold" "of" "LTureenlist$Wish;", Cond.sameField "Tureenlist$Hold" "Tureenlist$Deed" "of" "LTureenlist$Wish;", Cond.fieldLink RX3 21 "Tureenlist$Wish" "struck" "Z", Cond.fieldLink RX3 26 "Tureenlist$Hold" "since" "I", Cond.sameField "Tureenlist$Hold" "Tureenlist$Deed" "since" "I", Cond.fieldLink RX3 7 "Tureenlist$Hold" "minutes" "I", Cond.methodLink RX6 438 ⟨"Tureenlist$Hold", "isSeenAt", "(I)Z"⟩, Cond.sameMethod "Tureenlist$Hold" "Tureenlist$Deed" "isSeenAt" "(I)Z", Cond.selects RX3 ⟨"Tureenlist$Hold", "isSeenAt", "(I)Z"⟩ yX0_isSeenAt, Cond.instanceMethod yX0_isSeenAt, Cond.initialized RX0, Cond.code yX0_isSeenAt cX0_isSeenAt 2 (some .boolean)]
def wsL_isFair_r5 : List Cond := [Cond.fieldLink RX0 24 "Tureenlist$Deed" "seers" "I", Cond.methodLink RX6 269 yX6_keptSeenAt, Cond.instanceMethod yX6_keptSeenAt, Cond.selects RX6 yX6_keptSeenAt yX6_keptSeenAt, Cond.code yX6_keptSeenAt cX6_keptSeenAt 5 (some .int), Cond.methodLink RX6 428 ⟨"Tureenlist$Gift", "isSeenAt", "(I)Z"⟩, Cond.sameMethod "Tureenlist$Gift" "Tureenlist$Deed" "isSeenAt" "(I)Z", Cond.selects RX1 ⟨"Tureenlist$Gift", "isSeenAt", "(I)Z"⟩ yX0_isSeenAt, Cond.methodLink RX6 272 yX6_takeStock, Cond.instanceMethod yX6_takeStock, Cond.selects RX6 yX6_takeStock yX6_takeStock, Cond.code yX6_takeStock cX6_takeStock 4 none, Cond.fieldLink RX6 12 "Tureenlist" "wishes" "Ljava/util/ArrayList;", Cond.classLink RX6 56 "Tureenlist$Wish", Cond.fieldLink RX6 337 "Tureenlist$Wish" "stock" "I", Cond.methodLink RX6 137 yX6_leftAt, Cond.instanceMethod yX6_leftAt, Cond.selects RX6 yX6_leftAt yX6_leftAt, Cond.code yX6_leftAt cX6_leftAt 6 (some .int), Cond.fieldLink RX6 78 "Tureenlist$Wish" "forMany" "Z", Cond.fieldLink RX6 98 "Tureenlist$Wish" "struck" "Z", Cond.fieldLink RX6 232 "Tureenlist$Wish" "count" "I", Cond.fieldLink RX6 434 "Tureenlist$Hold" "of" "LTureenlist$Wish;", Cond.methodLink RX6 408 Lib.Math.max.name]
def wsL_isFair_r6 : List Cond := [Cond.static Lib.Math.max.name, Cond.initialized "java/lang/Math", Cond.code Lib.Math.max.name Lib.Math.max.code 2 (some .int), Cond.methodLink RX6 431 yX6_keptOfSeenAt, Cond.instanceMethod yX6_keptOfSeenAt, Cond.selects RX6 yX6_keptOfSeenAt yX6_keptOfSeenAt, Cond.code yX6_keptOfSeenAt cX6_keptOfSeenAt 6 (some .int), Cond.methodLink RX6 275 yX6_guestsWithoutPart, Cond.instanceMethod yX6_guestsWithoutPart, Cond.selects RX6 yX6_guestsWithoutPart yX6_guestsWithoutPart, Cond.code yX6_guestsWithoutPart cX6_guestsWithoutPart 4 (some .int), Cond.fieldLink RX6 16 "Tureenlist" "guests" "Ljava/util/ArrayList;", Cond.classLink RX6 69 "Tureenlist$Guest", Cond.methodLink RX6 247 yX6_giftsBy, Cond.instanceMethod yX6_giftsBy, Cond.selects RX6 yX6_giftsBy yX6_giftsBy, Cond.code yX6_giftsBy cX6_giftsBy 6 (some .int), Cond.methodLink RX6 255 yX6_pledgedBy, Cond.instanceMethod yX6_pledgedBy, Cond.selects RX6 yX6_pledgedBy yX6_pledgedBy, Cond.code yX6_pledgedBy cX6_pledgedBy 4 (some .int), Cond.methodLink RX6 324 yX5_pledgedBy, Cond.instanceMethod yX5_pledgedBy, Cond.selects RX5 yX5_pledgedBy yX5_pledgedBy]
def wsL_isFair_r7 : List Cond := [Cond.initialized RX5, Cond.code yX5_pledgedBy cX5_pledgedBy 5 (some .int), Cond.fieldLink RX5 26 "Tureenlist$Wish" "pledges" "Ljava/util/ArrayList;", Cond.classLink RX5 38 "Tureenlist$Pledge", Cond.fieldLink RX5 43 "Tureenlist$Pledge" "by" "LTureenlist$Guest;", Cond.fieldLink RX5 40 "Tureenlist$Pledge" "pence" "I", Cond.methodLink RX5 30 yJx4a65c_size_8abf5, Cond.methodLink RX5 34 yJx4a65c_get_915e3, Cond.methodLink RX6 278 yX6_fillBy, Cond.instanceMethod yX6_fillBy, Cond.selects RX6 yX6_fillBy yX6_fillBy, Cond.code yX6_fillBy cX6_fillBy 6 (some .int), Cond.fieldLink RX6 158 "Tureenlist$Guest" "purse" "I", Cond.methodLink RX6 209 Lib.Math.min.name, Cond.static Lib.Math.min.name, Cond.code Lib.Math.min.name Lib.Math.min.code 2 (some .int), Cond.methodLink RX6 111 yJ6_bitCount_0f7a4, Cond.static yJ6_bitCount_0f7a4, Cond.initialized RJ6, Cond.code yJ6_bitCount_0f7a4 cJ6_bitCount_0f7a4 1 (some .int), Cond.constant RJ6 265 (1431655765), Cond.constant RJ6 266 (858993459), Cond.constant RJ6 267 (252645135), Cond.methodLink RX6 449 yX6_buyersAbove]
def wsL_isFair_r8 : List Cond := [Cond.instanceMethod yX6_buyersAbove, Cond.selects RX6 yX6_buyersAbove yX6_buyersAbove, Cond.code yX6_buyersAbove cX6_buyersAbove 5 (some .int), Cond.methodLink RX6 452 yX6_stockWithin, Cond.instanceMethod yX6_stockWithin, Cond.selects RX6 yX6_stockWithin yX6_stockWithin, Cond.code yX6_stockWithin cX6_stockWithin 6 (some .int), Cond.fieldLink RX6 88 "Tureenlist$Wish" "cost" "I", Cond.methodLink RX6 281 yX6_allLeftAt, Cond.instanceMethod yX6_allLeftAt, Cond.selects RX6 yX6_allLeftAt yX6_allLeftAt, Cond.code yX6_allLeftAt cX6_allLeftAt 4 (some .int), Cond.methodLink RL 105 yX6_ofWish, Cond.instanceMethod yX6_ofWish, Cond.selects RX6 yX6_ofWish yX6_ofWish, Cond.code yX6_ofWish cX6_ofWish 4 (some .int), Cond.methodLink RX6 74 yX6_wishNumbered, Cond.instanceMethod yX6_wishNumbered, Cond.selects RX6 yX6_wishNumbered yX6_wishNumbered, Cond.code yX6_wishNumbered cX6_wishNumbered 2 (some (.object "Tureenlist$Wish")), Cond.methodLink RX6 239 yX6_giftsOf, Cond.instanceMethod yX6_giftsOf, Cond.selects RX6 yX6_giftsOf yX6_giftsOf, Cond.code yX6_giftsOf cX6_giftsOf 6 (some .int)]
def wsL_isFair_r9 : List Cond := [Cond.methodLink RX6 91 yX5_pledged, Cond.instanceMethod yX5_pledged, Cond.selects RX5 yX5_pledged yX5_pledged, Cond.code yX5_pledged cX5_pledged 3 (some .int), Cond.methodLink RX6 206 yX5_lacking, Cond.instanceMethod yX5_lacking, Cond.selects RX5 yX5_lacking yX5_lacking, Cond.code yX5_lacking cX5_lacking 1 (some .int), Cond.fieldLink RX5 19 "Tureenlist$Wish" "forMany" "Z", Cond.fieldLink RX5 16 "Tureenlist$Wish" "cost" "I", Cond.methodLink RX5 50 Lib.Math.max.name, Cond.methodLink RX5 47 yX5_pledged, Cond.methodLink RX6 242 yX5_isOrdered, Cond.instanceMethod yX5_isOrdered, Cond.selects RX5 yX5_isOrdered yX5_isOrdered, Cond.code yX5_isOrdered cX5_isOrdered 1 (some .boolean), Cond.methodLink RX5 56 yX5_lacking, Cond.methodLink RL 80 yX6_wouldTake, Cond.instanceMethod yX6_wouldTake, Cond.selects RX6 yX6_wouldTake yX6_wouldTake, Cond.code yX6_wouldTake cX6_wouldTake 4 (some .int), Cond.methodLink RX6 334 yX6_tooManyWith, Cond.instanceMethod yX6_tooManyWith, Cond.selects RX6 yX6_tooManyWith yX6_tooManyWith]
def wsL_isFair_r10 : List Cond := [Cond.code yX6_tooManyWith cX6_tooManyWith 6 (some .int), Cond.methodLink RX6 418 ⟨"Tureenlist$Gift", "isOpen", "()Z"⟩, Cond.sameMethod "Tureenlist$Gift" "Tureenlist$Deed" "isOpen" "()Z", Cond.selects RX1 ⟨"Tureenlist$Gift", "isOpen", "()Z"⟩ yX0_isOpen, Cond.instanceMethod yX0_isOpen, Cond.code yX0_isOpen cX0_isOpen 1 (some .boolean), Cond.fieldLink RX0 27 "Tureenlist$Deed" "open" "Z", Cond.methodLink RL 32 yX6_shop, Cond.instanceMethod yX6_shop, Cond.selects RX6 yX6_shop yX6_shop, Cond.code yX6_shop cX6_shop 2 (some .int), Cond.fieldLink RX6 303 "Tureenlist" "paidEver" "I", Cond.fieldLink RX6 306 "Tureenlist" "wentBackEver" "I", Cond.fieldLink RX6 229 "Tureenlist" "calledOff" "Z", Cond.methodLink RX6 300 yX6_giftsNow, Cond.instanceMethod yX6_giftsNow, Cond.selects RX6 yX6_giftsNow yX6_giftsNow, Cond.code yX6_giftsNow cX6_giftsNow 4 (some .int), Cond.methodLink RX6 226 yX6_holdsStanding, Cond.instanceMethod yX6_holdsStanding, Cond.selects RX6 yX6_holdsStanding yX6_holdsStanding, Cond.code yX6_holdsStanding cX6_holdsStanding 3 (some .int)]
def wsL_isFair : List Cond := .code yL_isFair cL_isFair 10 (some .boolean) :: ((wsL_isFair_r1 ++ (wsL_isFair_r2 ++ (wsL_isFair_r3 ++ (wsL_isFair_r4 ++ (wsL_isFair_r5 ++ (wsL_isFair_r6 ++ (wsL_isFair_r7 ++ (wsL_isFair_r8 ++ (wsL_isFair_r9 ++ wsL_isFair_r10))))))))) ++ wsX60 ++ wsX10 ++ wsX30 ++ wsX50 ++ wsX20 ++ wsJx4a65c0 ++ wsX40 ++ (vx_atS RX6 286 "java/lang/IndexOutOfBoundsException" ["java/lang/RuntimeException", "java/lang/Exception"]).filter goodWord ++ (vx_atS RX6 33 "java/lang/IllegalArgumentException" ["java/lang/RuntimeException", "java/lang/Exception"]).filter goodWord)
def wsL_isTaken_r1 : List Cond := [Cond.methodLink RL 83 yX6_ofGift, Cond.instanceMethod yX6_ofGift, Cond.selects RX6 yX6_ofGift yX6_ofGift, Cond.initialized RX6, Cond.code yX6_ofGift cX6_ofGift 4 (some .int), Cond.classLink RX6 284 "java/lang/IndexOutOfBoundsException", Cond.initialized "java/lang/IndexOutOfBoundsException", Cond.classLink RX6 29 "java/lang/IllegalArgumentException", Cond.initialized "java/lang/IllegalArgumentException", Cond.fieldLink RX6 19 "Tureenlist" "gifts" "Ljava/util/ArrayList;", Cond.classLink RX6 171 "Tureenlist$Gift", Cond.fieldLink RX6 185 "Tureenlist$Gift" "of" "LTureenlist$Wish;", Cond.sameField "Tureenlist$Gift" "Tureenlist$Deed" "of" "LTureenlist$Wish;", Cond.fieldLink RX6 287 "Tureenlist$Wish" "number" "I", Cond.fieldLink RX6 181 "Tureenlist$Gift" "by" "LTureenlist$Guest;", Cond.sameField "Tureenlist$Gift" "Tureenlist$Deed" "by" "LTureenlist$Guest;", Cond.fieldLink RX6 290 "Tureenlist$Guest" "number" "I", Cond.fieldLink RX6 291 "Tureenlist$Gift" "till" "I", Cond.sameField "Tureenlist$Gift" "Tureenlist$Deed" "till" "I", Cond.fieldLink RX6 189 "Tureenlist$Gift" "since" "I", Cond.sameField "Tureenlist$Gift" "Tureenlist$Deed" "since" "I", Cond.fieldLink RX6 294 "Tureenlist$Gift" "paid" "I", Cond.fieldLink RX6 297 "Tureenlist$Gift" "state" "I", Cond.methodLink RX6 47 yJx4a65c_size_8abf5]
def wsL_isTaken_r2 : List Cond := [Cond.instanceMethod yJx4a65c_size_8abf5, Cond.selects RJx4a65c yJx4a65c_size_8abf5 yJx4a65c_size_8abf5, Cond.initialized RJx4a65c, Cond.code yJx4a65c_size_8abf5 cJx4a65c_size_8abf5 1 (some .int), Cond.fieldLink RJx4a65c 48 "java/util/ArrayList" "size" "I", Cond.methodLink RX6 122 yJx4a65c_get_915e3, Cond.instanceMethod yJx4a65c_get_915e3, Cond.selects RJx4a65c yJx4a65c_get_915e3 yJx4a65c_get_915e3, Cond.code yJx4a65c_get_915e3 cJx4a65c_get_915e3 2 (some (.object "java/lang/Object")), Cond.methodLink RJx4a65c 118 yJ15_checkIndex_7cf53, Cond.static yJ15_checkIndex_7cf53, Cond.initialized RJ15, Cond.code yJ15_checkIndex_7cf53 cJ15_checkIndex_7cf53 2 (some .int), Cond.methodLink RJ15 105 yJ3_checkIndex_8e157, Cond.static yJ3_checkIndex_8e157, Cond.initialized RJ3, Cond.code yJ3_checkIndex_8e157 cJ3_checkIndex_8e157 3 (some .int), Cond.methodLink RJx4a65c 123 yJx4a65c_elementData_915e3, Cond.instanceMethod yJx4a65c_elementData_915e3, Cond.selects RJx4a65c yJx4a65c_elementData_915e3 yJx4a65c_elementData_915e3, Cond.code yJx4a65c_elementData_915e3 cJx4a65c_elementData_915e3 2 (some (.object "java/lang/Object")), Cond.fieldLink RJx4a65c 9 "java/util/ArrayList" "elementData" "[Ljava/lang/Object;"]
def wsL_isTaken : List Cond := .code yL_isTaken cL_isTaken 3 (some .boolean) :: ((wsL_isTaken_r1 ++ wsL_isTaken_r2) ++ wsX60 ++ wsX10 ++ wsX30 ++ wsX50 ++ wsX20 ++ wsJx4a65c0 ++ (vx_atS RX6 286 "java/lang/IndexOutOfBoundsException" ["java/lang/RuntimeException", "java/lang/Exception"]).filter goodWord ++ (vx_atS RX6 33 "java/lang/IllegalArgumentException" ["java/lang/RuntimeException", "java/lang/Exception"]).filter goodWord)
def wsL_arePence_r1 : List Cond := [Cond.methodLink RL 32 yX6_shop, Cond.instanceMethod yX6_shop, Cond.selects RX6 yX6_shop yX6_shop, Cond.initialized RX6, Cond.code yX6_shop cX6_shop 2 (some .int), Cond.classLink RX6 29 "java/lang/IllegalArgumentException", Cond.initialized "java/lang/IllegalArgumentException", Cond.fieldLink RX6 145 "Tureenlist" "minute" "I", Cond.fieldLink RX6 12 "Tureenlist" "wishes" "Ljava/util/ArrayList;", Cond.fieldLink RX6 16 "Tureenlist" "guests" "Ljava/util/ArrayList;", Cond.fieldLink RX6 19 "Tureenlist" "gifts" "Ljava/util/ArrayList;", Cond.fieldLink RX6 303 "Tureenlist" "paidEver" "I", Cond.fieldLink RX6 306 "Tureenlist" "wentBackEver" "I", Cond.fieldLink RX6 22 "Tureenlist" "holds" "Ljava/util/ArrayList;", Cond.fieldLink RX6 229 "Tureenlist" "calledOff" "Z", Cond.methodLink RX6 47 yJx4a65c_size_8abf5, Cond.instanceMethod yJx4a65c_size_8abf5, Cond.selects RJx4a65c yJx4a65c_size_8abf5 yJx4a65c_size_8abf5, Cond.initialized RJx4a65c, Cond.code yJx4a65c_size_8abf5 cJx4a65c_size_8abf5 1 (some .int), Cond.fieldLink RJx4a65c 48 "java/util/ArrayList" "size" "I", Cond.methodLink RX6 300 yX6_giftsNow, Cond.instanceMethod yX6_giftsNow, Cond.selects RX6 yX6_giftsNow yX6_giftsNow]
def wsL_arePence_r2 : List Cond := [Cond.code yX6_giftsNow cX6_giftsNow 4 (some .int), Cond.classLink RX6 171 "Tureenlist$Gift", Cond.fieldLink RX6 297 "Tureenlist$Gift" "state" "I", Cond.methodLink RX6 122 yJx4a65c_get_915e3, Cond.instanceMethod yJx4a65c_get_915e3, Cond.selects RJx4a65c yJx4a65c_get_915e3 yJx4a65c_get_915e3, Cond.code yJx4a65c_get_915e3 cJx4a65c_get_915e3 2 (some (.object "java/lang/Object")), Cond.methodLink RJx4a65c 118 yJ15_checkIndex_7cf53, Cond.static yJ15_checkIndex_7cf53, Cond.initialized RJ15, Cond.code yJ15_checkIndex_7cf53 cJ15_checkIndex_7cf53 2 (some .int), Cond.methodLink RJ15 105 yJ3_checkIndex_8e157, Cond.static yJ3_checkIndex_8e157, Cond.initialized RJ3, Cond.code yJ3_checkIndex_8e157 cJ3_checkIndex_8e157 3 (some .int), Cond.methodLink RJx4a65c 123 yJx4a65c_elementData_915e3, Cond.instanceMethod yJx4a65c_elementData_915e3, Cond.selects RJx4a65c yJx4a65c_elementData_915e3 yJx4a65c_elementData_915e3, Cond.code yJx4a65c_elementData_915e3 cJx4a65c_elementData_915e3 2 (some (.object "java/lang/Object")), Cond.fieldLink RJx4a65c 9 "java/util/ArrayList" "elementData" "[Ljava/lang/Object;", Cond.methodLink RX6 235 yX6_oneIf, Cond.static yX6_oneIf, Cond.code yX6_oneIf cX6_oneIf 1 (some .int), Cond.methodLink RX6 226 yX6_holdsStanding]
def wsL_arePence_r3 : List Cond := [Cond.instanceMethod yX6_holdsStanding, Cond.selects RX6 yX6_holdsStanding yX6_holdsStanding, Cond.code yX6_holdsStanding cX6_holdsStanding 3 (some .int), Cond.classLink RX6 143 "Tureenlist$Hold", Cond.methodLink RX6 435 yX3_standsAt, Cond.instanceMethod yX3_standsAt, Cond.selects RX3 yX3_standsAt yX3_standsAt, Cond.initialized RX3, Cond.code yX3_standsAt cX3_standsAt 2 (some .boolean), Cond.fieldLink RX3 13 "Tureenlist$Hold" "used" "Z", Cond.fieldLink RX3 17 "Tureenlist$Hold" "of" "LTureenlist$Wish;", Cond.sameField "Tureenlist$Hold" "Tureenlist$Deed" "of" "LTureenlist$Wish;", Cond.fieldLink RX3 21 "Tureenlist$Wish" "struck" "Z", Cond.fieldLink RX3 26 "Tureenlist$Hold" "since" "I", Cond.sameField "Tureenlist$Hold" "Tureenlist$Deed" "since" "I", Cond.fieldLink RX3 7 "Tureenlist$Hold" "minutes" "I", Cond.methodLink RL 83 yX6_ofGift, Cond.instanceMethod yX6_ofGift, Cond.selects RX6 yX6_ofGift yX6_ofGift, Cond.code yX6_ofGift cX6_ofGift 4 (some .int), Cond.classLink RX6 284 "java/lang/IndexOutOfBoundsException", Cond.initialized "java/lang/IndexOutOfBoundsException", Cond.fieldLink RX6 185 "Tureenlist$Gift" "of" "LTureenlist$Wish;", Cond.sameField "Tureenlist$Gift" "Tureenlist$Deed" "of" "LTureenlist$Wish;"]
def wsL_arePence_r4 : List Cond := [Cond.fieldLink RX6 287 "Tureenlist$Wish" "number" "I", Cond.fieldLink RX6 181 "Tureenlist$Gift" "by" "LTureenlist$Guest;", Cond.sameField "Tureenlist$Gift" "Tureenlist$Deed" "by" "LTureenlist$Guest;", Cond.fieldLink RX6 290 "Tureenlist$Guest" "number" "I", Cond.fieldLink RX6 291 "Tureenlist$Gift" "till" "I", Cond.sameField "Tureenlist$Gift" "Tureenlist$Deed" "till" "I", Cond.fieldLink RX6 189 "Tureenlist$Gift" "since" "I", Cond.sameField "Tureenlist$Gift" "Tureenlist$Deed" "since" "I", Cond.fieldLink RX6 294 "Tureenlist$Gift" "paid" "I", Cond.methodLink RL 105 yX6_ofWish, Cond.instanceMethod yX6_ofWish, Cond.selects RX6 yX6_ofWish yX6_ofWish, Cond.code yX6_ofWish cX6_ofWish 4 (some .int), Cond.fieldLink RX6 232 "Tureenlist$Wish" "count" "I", Cond.fieldLink RX6 88 "Tureenlist$Wish" "cost" "I", Cond.fieldLink RX6 78 "Tureenlist$Wish" "forMany" "Z", Cond.fieldLink RX6 98 "Tureenlist$Wish" "struck" "Z", Cond.methodLink RX6 74 yX6_wishNumbered, Cond.instanceMethod yX6_wishNumbered, Cond.selects RX6 yX6_wishNumbered yX6_wishNumbered, Cond.code yX6_wishNumbered cX6_wishNumbered 2 (some (.object "Tureenlist$Wish")), Cond.classLink RX6 56 "Tureenlist$Wish", Cond.methodLink RX6 239 yX6_giftsOf, Cond.instanceMethod yX6_giftsOf]
def wsL_arePence_r5 : List Cond := [Cond.selects RX6 yX6_giftsOf yX6_giftsOf, Cond.code yX6_giftsOf cX6_giftsOf 6 (some .int), Cond.methodLink RX6 91 yX5_pledged, Cond.instanceMethod yX5_pledged, Cond.selects RX5 yX5_pledged yX5_pledged, Cond.initialized RX5, Cond.code yX5_pledged cX5_pledged 3 (some .int), Cond.fieldLink RX5 26 "Tureenlist$Wish" "pledges" "Ljava/util/ArrayList;", Cond.classLink RX5 38 "Tureenlist$Pledge", Cond.fieldLink RX5 40 "Tureenlist$Pledge" "pence" "I", Cond.methodLink RX5 30 yJx4a65c_size_8abf5, Cond.methodLink RX5 34 yJx4a65c_get_915e3, Cond.methodLink RX6 206 yX5_lacking, Cond.instanceMethod yX5_lacking, Cond.selects RX5 yX5_lacking yX5_lacking, Cond.code yX5_lacking cX5_lacking 1 (some .int), Cond.fieldLink RX5 19 "Tureenlist$Wish" "forMany" "Z", Cond.fieldLink RX5 16 "Tureenlist$Wish" "cost" "I", Cond.methodLink RX5 50 Lib.Math.max.name, Cond.static Lib.Math.max.name, Cond.initialized "java/lang/Math", Cond.code Lib.Math.max.name Lib.Math.max.code 2 (some .int), Cond.methodLink RX5 47 yX5_pledged, Cond.methodLink RX6 242 yX5_isOrdered]
def wsL_arePence_r6 : List Cond := [Cond.instanceMethod yX5_isOrdered, Cond.selects RX5 yX5_isOrdered yX5_isOrdered, Cond.code yX5_isOrdered cX5_isOrdered 1 (some .boolean), Cond.methodLink RX5 56 yX5_lacking, Cond.methodLink RL 112 yX6_ofGuest, Cond.instanceMethod yX6_ofGuest, Cond.selects RX6 yX6_ofGuest yX6_ofGuest, Cond.code yX6_ofGuest cX6_ofGuest 4 (some .int), Cond.fieldLink RX6 158 "Tureenlist$Guest" "purse" "I", Cond.methodLink RX6 129 yX6_guestNumbered, Cond.instanceMethod yX6_guestNumbered, Cond.selects RX6 yX6_guestNumbered yX6_guestNumbered, Cond.code yX6_guestNumbered cX6_guestNumbered 2 (some (.object "Tureenlist$Guest")), Cond.classLink RX6 69 "Tureenlist$Guest", Cond.methodLink RX6 247 yX6_giftsBy, Cond.instanceMethod yX6_giftsBy, Cond.selects RX6 yX6_giftsBy yX6_giftsBy, Cond.code yX6_giftsBy cX6_giftsBy 6 (some .int), Cond.methodLink RX6 251 yX6_paidForKeptBy, Cond.instanceMethod yX6_paidForKeptBy, Cond.selects RX6 yX6_paidForKeptBy yX6_paidForKeptBy, Cond.code yX6_paidForKeptBy cX6_paidForKeptBy 5 (some .int), Cond.methodLink RX6 177 yX1_isKept, Cond.instanceMethod yX1_isKept]
def wsL_arePence_r7 : List Cond := [Cond.selects RX1 yX1_isKept yX1_isKept, Cond.initialized RX1, Cond.code yX1_isKept cX1_isKept 1 (some .boolean), Cond.fieldLink RX1 18 "Tureenlist$Gift" "state" "I", Cond.methodLink RX6 255 yX6_pledgedBy, Cond.instanceMethod yX6_pledgedBy, Cond.selects RX6 yX6_pledgedBy yX6_pledgedBy, Cond.code yX6_pledgedBy cX6_pledgedBy 4 (some .int), Cond.methodLink RX6 324 yX5_pledgedBy, Cond.instanceMethod yX5_pledgedBy, Cond.selects RX5 yX5_pledgedBy yX5_pledgedBy, Cond.code yX5_pledgedBy cX5_pledgedBy 5 (some .int), Cond.fieldLink RX5 43 "Tureenlist$Pledge" "by" "LTureenlist$Guest;", Cond.methodLink RX6 258 yX6_holdsStandingOf, Cond.instanceMethod yX6_holdsStandingOf, Cond.selects RX6 yX6_holdsStandingOf yX6_holdsStandingOf, Cond.code yX6_holdsStandingOf cX6_holdsStandingOf 5 (some .int), Cond.fieldLink RX6 448 "Tureenlist$Hold" "by" "LTureenlist$Guest;", Cond.sameField "Tureenlist$Hold" "Tureenlist$Deed" "by" "LTureenlist$Guest;"]
def wsL_arePence : List Cond := .code yL_arePence cL_arePence 4 (some .boolean) :: ((wsL_arePence_r1 ++ (wsL_arePence_r2 ++ (wsL_arePence_r3 ++ (wsL_arePence_r4 ++ (wsL_arePence_r5 ++ (wsL_arePence_r6 ++ wsL_arePence_r7)))))) ++ wsX60 ++ wsJx4a65c0 ++ wsX10 ++ wsX30 ++ wsX50 ++ wsX20 ++ wsX40 ++ (vx_atS RX6 33 "java/lang/IllegalArgumentException" ["java/lang/RuntimeException", "java/lang/Exception"]).filter goodWord ++ (vx_atS RX6 286 "java/lang/IndexOutOfBoundsException" ["java/lang/RuntimeException", "java/lang/Exception"]).filter goodWord)
def wsL_law0_r1 : List Cond := [Cond.arrayClass .int, Cond.methodLink RL 73 yL_shop, Cond.static yL_shop, Cond.initialized RL, Cond.code yL_shop cL_shop 5 (some (.object "Tureenlist")), Cond.classLink RL 9 RX6, Cond.instantiable RX6 9, Cond.initialized RX6, Cond.methodLink RL 11 yX6_init, Cond.instanceMethod yX6_init, Cond.code yX6_init cX6_init 1 none, Cond.methodLink RX6 3 objectInit, Cond.instanceMethod objectInit, Cond.code objectInit ⟨#[0xb1]⟩ 1 none, Cond.classLink RX6 9 RJx4a65c, Cond.instantiable RJx4a65c 3, Cond.initialized RJx4a65c, Cond.fieldLink RX6 12 "Tureenlist" "wishes" "Ljava/util/ArrayList;", Cond.fieldLink RX6 16 "Tureenlist" "guests" "Ljava/util/ArrayList;", Cond.fieldLink RX6 19 "Tureenlist" "gifts" "Ljava/util/ArrayList;", Cond.fieldLink RX6 22 "Tureenlist" "holds" "Ljava/util/ArrayList;", Cond.fieldLink RX6 25 "Tureenlist" "joined" "I", Cond.methodLink RX6 11 yJx4a65c_init_da8c8, Cond.instanceMethod yJx4a65c_init_da8c8]
def wsL_law0_r2 : List Cond := [Cond.code yJx4a65c_init_da8c8 cJx4a65c_init_da8c8 1 none, Cond.fieldLink RJx4a65c 39 "java/util/ArrayList" "DEFAULTCAPACITY_EMPTY_ELEMENTDATA" "[Ljava/lang/Object;", Cond.fieldLink RJx4a65c 9 "java/util/ArrayList" "elementData" "[Ljava/lang/Object;", Cond.methodLink RJx4a65c 1 yJxc12de_init_da8c8, Cond.instanceMethod yJxc12de_init_da8c8, Cond.initialized RJxc12de, Cond.code yJxc12de_init_da8c8 cJxc12de_init_da8c8 1 none, Cond.fieldLink RJxc12de 7 "java/util/AbstractList" "modCount" "I", Cond.methodLink RJxc12de 1 yJxa1e45_init_da8c8, Cond.instanceMethod yJxa1e45_init_da8c8, Cond.initialized RJxa1e45, Cond.code yJxa1e45_init_da8c8 cJxa1e45_init_da8c8 1 none, Cond.methodLink RJxa1e45 1 objectInit, Cond.methodLink RL 12 yL_cell, Cond.static yL_cell, Cond.code yL_cell cL_cell 2 (some .int), Cond.constant RL 8 (790386105), Cond.methodLink RL 18 yL_below, Cond.static yL_below, Cond.code yL_below cL_below 2 (some .int), Cond.constant RL 7 (2147483647), Cond.methodLink RL 22 yX6_shared, Cond.instanceMethod yX6_shared, Cond.selects RX6 yX6_shared yX6_shared]
def wsL_law0_r3 : List Cond := [Cond.code yX6_shared cX6_shared 2 (some .int), Cond.classLink RX6 29 "java/lang/IllegalArgumentException", Cond.initialized "java/lang/IllegalArgumentException", Cond.methodLink RX6 38 yX6_addWish, Cond.instanceMethod yX6_addWish, Cond.selects RX6 yX6_addWish yX6_addWish, Cond.code yX6_addWish cX6_addWish 5 (some .int), Cond.classLink RX6 51 "java/lang/IllegalStateException", Cond.initialized "java/lang/IllegalStateException", Cond.classLink RX6 56 RX5, Cond.instantiable RX5 7, Cond.initialized RX5, Cond.methodLink RX6 44 yX6_refuseIfCalledOff, Cond.instanceMethod yX6_refuseIfCalledOff, Cond.selects RX6 yX6_refuseIfCalledOff yX6_refuseIfCalledOff, Cond.code yX6_refuseIfCalledOff cX6_refuseIfCalledOff 1 none, Cond.fieldLink RX6 229 "Tureenlist" "calledOff" "Z", Cond.methodLink RX6 47 yJx4a65c_size_8abf5, Cond.instanceMethod yJx4a65c_size_8abf5, Cond.selects RJx4a65c yJx4a65c_size_8abf5 yJx4a65c_size_8abf5, Cond.code yJx4a65c_size_8abf5 cJx4a65c_size_8abf5 1 (some .int), Cond.fieldLink RJx4a65c 48 "java/util/ArrayList" "size" "I", Cond.methodLink RX6 58 yX5_init, Cond.instanceMethod yX5_init]
def wsL_law0_r4 : List Cond := [Cond.code yX5_init cX5_init 5 none, Cond.methodLink RX5 1 objectInit, Cond.fieldLink RX5 7 "Tureenlist$Wish" "number" "I", Cond.fieldLink RX5 13 "Tureenlist$Wish" "count" "I", Cond.fieldLink RX5 16 "Tureenlist$Wish" "cost" "I", Cond.fieldLink RX5 19 "Tureenlist$Wish" "forMany" "Z", Cond.classLink RX5 23 RJx4a65c, Cond.fieldLink RX5 26 "Tureenlist$Wish" "pledges" "Ljava/util/ArrayList;", Cond.methodLink RX5 25 yJx4a65c_init_da8c8, Cond.methodLink RX6 61 yJx4a65c_add_9ea2d, Cond.instanceMethod yJx4a65c_add_9ea2d, Cond.selects RJx4a65c yJx4a65c_add_9ea2d yJx4a65c_add_9ea2d, Cond.code yJx4a65c_add_9ea2d cJx4a65c_add_9ea2d 2 (some .boolean), Cond.fieldLink RJx4a65c 63 "java/util/ArrayList" "modCount" "I", Cond.sameField "java/util/ArrayList" "java/util/AbstractList" "modCount" "I", Cond.methodLink RJx4a65c 131 yJx4a65c_add_72be8, Cond.instanceMethod yJx4a65c_add_72be8, Cond.selects RJx4a65c yJx4a65c_add_72be8 yJx4a65c_add_72be8, Cond.code yJx4a65c_add_72be8 cJx4a65c_add_72be8 4 none, Cond.methodLink RJx4a65c 129 yJx4a65c_grow_d5877, Cond.instanceMethod yJx4a65c_grow_d5877, Cond.selects RJx4a65c yJx4a65c_grow_d5877 yJx4a65c_grow_d5877, Cond.code yJx4a65c_grow_d5877 cJx4a65c_grow_d5877 1 (some (.array (.object "java/lang/Object"))), Cond.methodLink RJx4a65c 69 yJx4a65c_grow_92f84]
def wsL_law0_r5 : List Cond := [Cond.instanceMethod yJx4a65c_grow_92f84, Cond.selects RJx4a65c yJx4a65c_grow_92f84 yJx4a65c_grow_92f84, Cond.code yJx4a65c_grow_92f84 cJx4a65c_grow_92f84 4 (some (.array (.object "java/lang/Object"))), Cond.methodLink RJx4a65c 79 Lib.Math.max.name, Cond.static Lib.Math.max.name, Cond.initialized "java/lang/Math", Cond.code Lib.Math.max.name Lib.Math.max.code 2 (some .int), Cond.classLink RJx4a65c 7 "java/lang/Object", Cond.methodLink RJx4a65c 73 yJ8_newLength_cabcc, Cond.static yJ8_newLength_cabcc, Cond.initialized RJ8, Cond.code yJ8_newLength_cabcc cJ8_newLength_cabcc 4 (some .int), Cond.methodLink RJ8 194 Lib.Math.max.name, Cond.constant RJ8 200 (2147483639), Cond.methodLink RJ8 201 yJ8_hugeLength_7cf53, Cond.static yJ8_hugeLength_7cf53, Cond.code yJ8_hugeLength_7cf53 cJ8_hugeLength_7cf53 3 (some .int), Cond.methodLink RJx4a65c 66 yJ7_copyOf_1904c, Cond.static yJ7_copyOf_1904c, Cond.initialized RJ7, Cond.code yJ7_copyOf_1904c cJ7_copyOf_1904c 2 (some (.array (.object "java/lang/Object"))), Cond.methodLink RJ7 86 ⟨"java/lang/Object", "getClass", "()Ljava/lang/Class;"⟩, Cond.selects "[Ljava/lang/Object;" ⟨"java/lang/Object", "getClass", "()Ljava/lang/Class;"⟩ ⟨"java/lang/Object", "getClass", "()Ljava/lang/Class;"⟩, Cond.instanceMethod ⟨"java/lang/Object", "getClass", "()Ljava/lang/Class;"⟩]
def wsL_law0_r6 : List Cond := [Cond.native ⟨"java/lang/Object", "getClass", "()Ljava/lang/Class;"⟩, Cond.methodLink RJ7 300 yJ7_copyOf_6403c, Cond.static yJ7_copyOf_6403c, Cond.code yJ7_copyOf_6403c cJ7_copyOf_6403c 4 (some (.array (.object "java/lang/Object"))), Cond.classLink RJ7 110 "[Ljava/lang/Object;", Cond.classLink RJ7 2 "java/lang/Object", Cond.methodLink RJ7 304 Lib.Math.min.name, Cond.static Lib.Math.min.name, Cond.code Lib.Math.min.name Lib.Math.min.code 2 (some .int), Cond.methodLink RJ7 150 arraycopyName, Cond.native arraycopyName, Cond.static arraycopyName, Cond.initialized "java/lang/System", Cond.methodLink RL 26 yX6_wish, Cond.instanceMethod yX6_wish, Cond.selects RX6 yX6_wish yX6_wish, Cond.code yX6_wish cX6_wish 3 (some .int), Cond.methodLink RL 29 yX6_guest, Cond.instanceMethod yX6_guest, Cond.selects RX6 yX6_guest yX6_guest, Cond.code yX6_guest cX6_guest 3 (some .int), Cond.classLink RX6 69 RX2, Cond.instantiable RX2 2, Cond.initialized RX2]
def wsL_law0_r7 : List Cond := [Cond.methodLink RX6 71 yX2_init, Cond.instanceMethod yX2_init, Cond.code yX2_init cX2_init 3 none, Cond.methodLink RX2 1 objectInit, Cond.fieldLink RX2 7 "Tureenlist$Guest" "number" "I", Cond.fieldLink RX2 13 "Tureenlist$Guest" "purse" "I", Cond.methodLink RL 76 yX6_digest, Cond.instanceMethod yX6_digest, Cond.selects RX6 yX6_digest yX6_digest, Cond.code yX6_digest cX6_digest 5 (some .long), Cond.constantLong RX6 358 (4909), Cond.constantLong RX6 360 (31), Cond.methodLink RX6 362 yX6_shop, Cond.instanceMethod yX6_shop, Cond.selects RX6 yX6_shop yX6_shop, Cond.code yX6_shop cX6_shop 2 (some .int), Cond.fieldLink RX6 145 "Tureenlist" "minute" "I", Cond.fieldLink RX6 303 "Tureenlist" "paidEver" "I", Cond.fieldLink RX6 306 "Tureenlist" "wentBackEver" "I", Cond.methodLink RX6 300 yX6_giftsNow, Cond.instanceMethod yX6_giftsNow, Cond.selects RX6 yX6_giftsNow yX6_giftsNow, Cond.code yX6_giftsNow cX6_giftsNow 4 (some .int), Cond.classLink RX6 171 "Tureenlist$Gift"]
def wsL_law0_r8 : List Cond := [Cond.fieldLink RX6 297 "Tureenlist$Gift" "state" "I", Cond.methodLink RX6 122 yJx4a65c_get_915e3, Cond.instanceMethod yJx4a65c_get_915e3, Cond.selects RJx4a65c yJx4a65c_get_915e3 yJx4a65c_get_915e3, Cond.code yJx4a65c_get_915e3 cJx4a65c_get_915e3 2 (some (.object "java/lang/Object")), Cond.methodLink RJx4a65c 118 yJ15_checkIndex_7cf53, Cond.static yJ15_checkIndex_7cf53, Cond.initialized RJ15, Cond.code yJ15_checkIndex_7cf53 cJ15_checkIndex_7cf53 2 (some .int), Cond.methodLink RJ15 105 yJ3_checkIndex_8e157, Cond.static yJ3_checkIndex_8e157, Cond.initialized RJ3, Cond.code yJ3_checkIndex_8e157 cJ3_checkIndex_8e157 3 (some .int), Cond.methodLink RJx4a65c 123 yJx4a65c_elementData_915e3, Cond.instanceMethod yJx4a65c_elementData_915e3, Cond.selects RJx4a65c yJx4a65c_elementData_915e3 yJx4a65c_elementData_915e3, Cond.code yJx4a65c_elementData_915e3 cJx4a65c_elementData_915e3 2 (some (.object "java/lang/Object")), Cond.methodLink RX6 235 yX6_oneIf, Cond.static yX6_oneIf, Cond.code yX6_oneIf cX6_oneIf 1 (some .int), Cond.methodLink RX6 226 yX6_holdsStanding, Cond.instanceMethod yX6_holdsStanding, Cond.selects RX6 yX6_holdsStanding yX6_holdsStanding, Cond.code yX6_holdsStanding cX6_holdsStanding 3 (some .int)]
def wsL_law0_r9 : List Cond := [Cond.classLink RX6 143 "Tureenlist$Hold", Cond.methodLink RX6 435 yX3_standsAt, Cond.instanceMethod yX3_standsAt, Cond.selects RX3 yX3_standsAt yX3_standsAt, Cond.initialized RX3, Cond.code yX3_standsAt cX3_standsAt 2 (some .boolean), Cond.fieldLink RX3 13 "Tureenlist$Hold" "used" "Z", Cond.fieldLink RX3 17 "Tureenlist$Hold" "of" "LTureenlist$Wish;", Cond.sameField "Tureenlist$Hold" "Tureenlist$Deed" "of" "LTureenlist$Wish;", Cond.fieldLink RX3 21 "Tureenlist$Wish" "struck" "Z", Cond.fieldLink RX3 26 "Tureenlist$Hold" "since" "I", Cond.sameField "Tureenlist$Hold" "Tureenlist$Deed" "since" "I", Cond.fieldLink RX3 7 "Tureenlist$Hold" "minutes" "I", Cond.methodLink RX6 365 yX6_ofWish, Cond.instanceMethod yX6_ofWish, Cond.selects RX6 yX6_ofWish yX6_ofWish, Cond.code yX6_ofWish cX6_ofWish 4 (some .int), Cond.fieldLink RX6 232 "Tureenlist$Wish" "count" "I", Cond.fieldLink RX6 88 "Tureenlist$Wish" "cost" "I", Cond.fieldLink RX6 78 "Tureenlist$Wish" "forMany" "Z", Cond.fieldLink RX6 98 "Tureenlist$Wish" "struck" "Z", Cond.methodLink RX6 74 yX6_wishNumbered, Cond.instanceMethod yX6_wishNumbered, Cond.selects RX6 yX6_wishNumbered yX6_wishNumbered]
def wsL_law0_r10 : List Cond := [Cond.code yX6_wishNumbered cX6_wishNumbered 2 (some (.object "Tureenlist$Wish")), Cond.classLink RX6 284 "java/lang/IndexOutOfBoundsException", Cond.initialized "java/lang/IndexOutOfBoundsException", Cond.classLink RX6 56 "Tureenlist$Wish", Cond.methodLink RX6 239 yX6_giftsOf, Cond.instanceMethod yX6_giftsOf, Cond.selects RX6 yX6_giftsOf yX6_giftsOf, Cond.code yX6_giftsOf cX6_giftsOf 6 (some .int), Cond.fieldLink RX6 185 "Tureenlist$Gift" "of" "LTureenlist$Wish;", Cond.sameField "Tureenlist$Gift" "Tureenlist$Deed" "of" "LTureenlist$Wish;", Cond.methodLink RX6 91 yX5_pledged, Cond.instanceMethod yX5_pledged, Cond.selects RX5 yX5_pledged yX5_pledged, Cond.code yX5_pledged cX5_pledged 3 (some .int), Cond.classLink RX5 38 "Tureenlist$Pledge", Cond.fieldLink RX5 40 "Tureenlist$Pledge" "pence" "I", Cond.methodLink RX5 30 yJx4a65c_size_8abf5, Cond.methodLink RX5 34 yJx4a65c_get_915e3, Cond.methodLink RX6 206 yX5_lacking, Cond.instanceMethod yX5_lacking, Cond.selects RX5 yX5_lacking yX5_lacking, Cond.code yX5_lacking cX5_lacking 1 (some .int), Cond.methodLink RX5 50 Lib.Math.max.name, Cond.methodLink RX5 47 yX5_pledged]
def wsL_law0_r11 : List Cond := [Cond.methodLink RX6 242 yX5_isOrdered, Cond.instanceMethod yX5_isOrdered, Cond.selects RX5 yX5_isOrdered yX5_isOrdered, Cond.code yX5_isOrdered cX5_isOrdered 1 (some .boolean), Cond.methodLink RX5 56 yX5_lacking, Cond.methodLink RX6 368 yX6_ofGuest, Cond.instanceMethod yX6_ofGuest, Cond.selects RX6 yX6_ofGuest yX6_ofGuest, Cond.code yX6_ofGuest cX6_ofGuest 4 (some .int), Cond.fieldLink RX6 158 "Tureenlist$Guest" "purse" "I", Cond.methodLink RX6 129 yX6_guestNumbered, Cond.instanceMethod yX6_guestNumbered, Cond.selects RX6 yX6_guestNumbered yX6_guestNumbered, Cond.code yX6_guestNumbered cX6_guestNumbered 2 (some (.object "Tureenlist$Guest")), Cond.classLink RX6 69 "Tureenlist$Guest", Cond.methodLink RX6 247 yX6_giftsBy, Cond.instanceMethod yX6_giftsBy, Cond.selects RX6 yX6_giftsBy yX6_giftsBy, Cond.code yX6_giftsBy cX6_giftsBy 6 (some .int), Cond.fieldLink RX6 181 "Tureenlist$Gift" "by" "LTureenlist$Guest;", Cond.sameField "Tureenlist$Gift" "Tureenlist$Deed" "by" "LTureenlist$Guest;", Cond.methodLink RX6 251 yX6_paidForKeptBy, Cond.instanceMethod yX6_paidForKeptBy, Cond.selects RX6 yX6_paidForKeptBy yX6_paidForKeptBy]
def wsL_law0_r12 : List Cond := [Cond.code yX6_paidForKeptBy cX6_paidForKeptBy 5 (some .int), Cond.fieldLink RX6 294 "Tureenlist$Gift" "paid" "I", Cond.methodLink RX6 177 yX1_isKept, Cond.instanceMethod yX1_isKept, Cond.selects RX1 yX1_isKept yX1_isKept, Cond.initialized RX1, Cond.code yX1_isKept cX1_isKept 1 (some .boolean), Cond.fieldLink RX1 18 "Tureenlist$Gift" "state" "I", Cond.methodLink RX6 255 yX6_pledgedBy, Cond.instanceMethod yX6_pledgedBy, Cond.selects RX6 yX6_pledgedBy yX6_pledgedBy, Cond.code yX6_pledgedBy cX6_pledgedBy 4 (some .int), Cond.methodLink RX6 324 yX5_pledgedBy, Cond.instanceMethod yX5_pledgedBy, Cond.selects RX5 yX5_pledgedBy yX5_pledgedBy, Cond.code yX5_pledgedBy cX5_pledgedBy 5 (some .int), Cond.fieldLink RX5 43 "Tureenlist$Pledge" "by" "LTureenlist$Guest;", Cond.methodLink RX6 258 yX6_holdsStandingOf, Cond.instanceMethod yX6_holdsStandingOf, Cond.selects RX6 yX6_holdsStandingOf yX6_holdsStandingOf, Cond.code yX6_holdsStandingOf cX6_holdsStandingOf 5 (some .int), Cond.fieldLink RX6 448 "Tureenlist$Hold" "by" "LTureenlist$Guest;", Cond.sameField "Tureenlist$Hold" "Tureenlist$Deed" "by" "LTureenlist$Guest;", Cond.methodLink RX6 371 yX6_digestTill]
def wsL_law0_r13 : List Cond := [Cond.instanceMethod yX6_digestTill, Cond.selects RX6 yX6_digestTill yX6_digestTill, Cond.code yX6_digestTill cX6_digestTill 7 (some .long), Cond.methodLink RX6 381 yX6_ofTill, Cond.instanceMethod yX6_ofTill, Cond.selects RX6 yX6_ofTill yX6_ofTill, Cond.code yX6_ofTill cX6_ofTill 3 (some .int), Cond.methodLink RX6 101 yX6_checkTill, Cond.static yX6_checkTill, Cond.code yX6_checkTill cX6_checkTill 1 none, Cond.methodLink RX6 105 yX6_isJoined, Cond.instanceMethod yX6_isJoined, Cond.selects RX6 yX6_isJoined yX6_isJoined, Cond.code yX6_isJoined cX6_isJoined 2 (some .boolean), Cond.methodLink RX6 263 yX6_keptBoughtAt, Cond.instanceMethod yX6_keptBoughtAt, Cond.selects RX6 yX6_keptBoughtAt yX6_keptBoughtAt, Cond.code yX6_keptBoughtAt cX6_keptBoughtAt 5 (some .int), Cond.fieldLink RX6 291 "Tureenlist$Gift" "till" "I", Cond.sameField "Tureenlist$Gift" "Tureenlist$Deed" "till" "I", Cond.methodLink RX6 266 yX6_holdsStandingSeenAt, Cond.instanceMethod yX6_holdsStandingSeenAt, Cond.selects RX6 yX6_holdsStandingSeenAt yX6_holdsStandingSeenAt, Cond.code yX6_holdsStandingSeenAt cX6_holdsStandingSeenAt 5 (some .int)]
def wsL_law0_r14 : List Cond := [Cond.methodLink RX6 438 ⟨"Tureenlist$Hold", "isSeenAt", "(I)Z"⟩, Cond.sameMethod "Tureenlist$Hold" "Tureenlist$Deed" "isSeenAt" "(I)Z", Cond.selects RX3 ⟨"Tureenlist$Hold", "isSeenAt", "(I)Z"⟩ yX0_isSeenAt, Cond.instanceMethod yX0_isSeenAt, Cond.initialized RX0, Cond.code yX0_isSeenAt cX0_isSeenAt 2 (some .boolean), Cond.fieldLink RX0 24 "Tureenlist$Deed" "seers" "I", Cond.methodLink RX6 269 yX6_keptSeenAt, Cond.instanceMethod yX6_keptSeenAt, Cond.selects RX6 yX6_keptSeenAt yX6_keptSeenAt, Cond.code yX6_keptSeenAt cX6_keptSeenAt 5 (some .int), Cond.methodLink RX6 428 ⟨"Tureenlist$Gift", "isSeenAt", "(I)Z"⟩, Cond.sameMethod "Tureenlist$Gift" "Tureenlist$Deed" "isSeenAt" "(I)Z", Cond.selects RX1 ⟨"Tureenlist$Gift", "isSeenAt", "(I)Z"⟩ yX0_isSeenAt, Cond.methodLink RX6 272 yX6_takeStock, Cond.instanceMethod yX6_takeStock, Cond.selects RX6 yX6_takeStock yX6_takeStock, Cond.code yX6_takeStock cX6_takeStock 4 none, Cond.fieldLink RX6 337 "Tureenlist$Wish" "stock" "I", Cond.methodLink RX6 137 yX6_leftAt, Cond.instanceMethod yX6_leftAt, Cond.selects RX6 yX6_leftAt yX6_leftAt, Cond.code yX6_leftAt cX6_leftAt 6 (some .int), Cond.fieldLink RX6 434 "Tureenlist$Hold" "of" "LTureenlist$Wish;"]
def wsL_law0_r15 : List Cond := [Cond.methodLink RX6 408 Lib.Math.max.name, Cond.methodLink RX6 431 yX6_keptOfSeenAt, Cond.instanceMethod yX6_keptOfSeenAt, Cond.selects RX6 yX6_keptOfSeenAt yX6_keptOfSeenAt, Cond.code yX6_keptOfSeenAt cX6_keptOfSeenAt 6 (some .int), Cond.methodLink RX6 275 yX6_guestsWithoutPart, Cond.instanceMethod yX6_guestsWithoutPart, Cond.selects RX6 yX6_guestsWithoutPart yX6_guestsWithoutPart, Cond.code yX6_guestsWithoutPart cX6_guestsWithoutPart 4 (some .int), Cond.methodLink RX6 278 yX6_fillBy, Cond.instanceMethod yX6_fillBy, Cond.selects RX6 yX6_fillBy yX6_fillBy, Cond.code yX6_fillBy cX6_fillBy 6 (some .int), Cond.methodLink RX6 209 Lib.Math.min.name, Cond.methodLink RX6 111 yJ6_bitCount_0f7a4, Cond.static yJ6_bitCount_0f7a4, Cond.initialized RJ6, Cond.code yJ6_bitCount_0f7a4 cJ6_bitCount_0f7a4 1 (some .int), Cond.constant RJ6 265 (1431655765), Cond.constant RJ6 266 (858993459), Cond.constant RJ6 267 (252645135), Cond.methodLink RX6 449 yX6_buyersAbove, Cond.instanceMethod yX6_buyersAbove, Cond.selects RX6 yX6_buyersAbove yX6_buyersAbove]
def wsL_law0_r16 : List Cond := [Cond.code yX6_buyersAbove cX6_buyersAbove 5 (some .int), Cond.methodLink RX6 452 yX6_stockWithin, Cond.instanceMethod yX6_stockWithin, Cond.selects RX6 yX6_stockWithin yX6_stockWithin, Cond.code yX6_stockWithin cX6_stockWithin 6 (some .int), Cond.methodLink RX6 281 yX6_allLeftAt, Cond.instanceMethod yX6_allLeftAt, Cond.selects RX6 yX6_allLeftAt yX6_allLeftAt, Cond.code yX6_allLeftAt cX6_allLeftAt 4 (some .int), Cond.methodLink RX6 384 yX6_left, Cond.instanceMethod yX6_left, Cond.selects RX6 yX6_left yX6_left, Cond.code yX6_left cX6_left 3 (some .int), Cond.methodLink RX6 387 yX6_hint, Cond.instanceMethod yX6_hint, Cond.selects RX6 yX6_hint yX6_hint, Cond.code yX6_hint cX6_hint 12 (some .int), Cond.fieldLink RX6 290 "Tureenlist$Guest" "number" "I", Cond.methodLink RX6 390 yX6_wouldTake, Cond.instanceMethod yX6_wouldTake, Cond.selects RX6 yX6_wouldTake yX6_wouldTake, Cond.code yX6_wouldTake cX6_wouldTake 4 (some .int), Cond.methodLink RX6 334 yX6_tooManyWith, Cond.instanceMethod yX6_tooManyWith]
def wsL_law0_r17 : List Cond := [Cond.selects RX6 yX6_tooManyWith yX6_tooManyWith, Cond.code yX6_tooManyWith cX6_tooManyWith 6 (some .int), Cond.methodLink RX6 418 ⟨"Tureenlist$Gift", "isOpen", "()Z"⟩, Cond.sameMethod "Tureenlist$Gift" "Tureenlist$Deed" "isOpen" "()Z", Cond.selects RX1 ⟨"Tureenlist$Gift", "isOpen", "()Z"⟩ yX0_isOpen, Cond.instanceMethod yX0_isOpen, Cond.code yX0_isOpen cX0_isOpen 1 (some .boolean), Cond.fieldLink RX0 27 "Tureenlist$Deed" "open" "Z", Cond.methodLink RX6 375 yX6_ofGift, Cond.instanceMethod yX6_ofGift, Cond.selects RX6 yX6_ofGift yX6_ofGift, Cond.code yX6_ofGift cX6_ofGift 4 (some .int), Cond.fieldLink RX6 287 "Tureenlist$Wish" "number" "I", Cond.fieldLink RX6 189 "Tureenlist$Gift" "since" "I", Cond.sameField "Tureenlist$Gift" "Tureenlist$Deed" "since" "I", Cond.methodLink RX6 378 yX6_isSound, Cond.instanceMethod yX6_isSound, Cond.selects RX6 yX6_isSound yX6_isSound, Cond.code yX6_isSound cX6_isSound 1 (some .boolean), Cond.methodLink RX6 340 yX6_noneTooManyIfAllJoined, Cond.instanceMethod yX6_noneTooManyIfAllJoined, Cond.selects RX6 yX6_noneTooManyIfAllJoined yX6_noneTooManyIfAllJoined, Cond.code yX6_noneTooManyIfAllJoined cX6_noneTooManyIfAllJoined 3 (some .boolean), Cond.methodLink RX6 343 yX6_paidForKept]
def wsL_law0_r18 : List Cond := [Cond.instanceMethod yX6_paidForKept, Cond.selects RX6 yX6_paidForKept yX6_paidForKept, Cond.code yX6_paidForKept cX6_paidForKept 3 (some .int), Cond.methodLink RX6 346 yX6_pledgedNow, Cond.instanceMethod yX6_pledgedNow, Cond.selects RX6 yX6_pledgedNow yX6_pledgedNow, Cond.code yX6_pledgedNow cX6_pledgedNow 3 (some .int), Cond.methodLink RX6 349 yX6_noPurseBelowZero, Cond.instanceMethod yX6_noPurseBelowZero, Cond.selects RX6 yX6_noPurseBelowZero yX6_noPurseBelowZero, Cond.code yX6_noPurseBelowZero cX6_noPurseBelowZero 2 (some .boolean), Cond.methodLink RX6 352 yX6_noOrderedLacks, Cond.instanceMethod yX6_noOrderedLacks, Cond.selects RX6 yX6_noOrderedLacks yX6_noOrderedLacks, Cond.code yX6_noOrderedLacks cX6_noOrderedLacks 3 (some .boolean), Cond.methodLink RX6 355 yX6_joinedTillsSeeAlike, Cond.instanceMethod yX6_joinedTillsSeeAlike, Cond.selects RX6 yX6_joinedTillsSeeAlike yX6_joinedTillsSeeAlike, Cond.code yX6_joinedTillsSeeAlike cX6_joinedTillsSeeAlike 4 (some .boolean), Cond.methodLink RL 80 yX6_wouldTake, Cond.methodLink RL 32 yX6_shop, Cond.methodLink RL 83 yX6_ofGift, Cond.methodLink RL 86 yL_isDone, Cond.static yL_isDone]
def wsL_law0_r19 : List Cond := [Cond.codeWith yL_isDone cL_isDone 6 (some .boolean) [(43, 333, 334, 69), (43, 333, 338, 71)], Cond.classLink RL 69 "java/lang/IllegalStateException", Cond.classLink RL 71 "java/lang/IndexOutOfBoundsException", Cond.methodLink RL 35 Lib.Math.max.name, Cond.methodLink RL 40 yX6_price, Cond.instanceMethod yX6_price, Cond.selects RX6 yX6_price yX6_price, Cond.code yX6_price cX6_price 4 (some .int), Cond.methodLink RX6 84 yX6_refuseIfSettled, Cond.instanceMethod yX6_refuseIfSettled, Cond.selects RX6 yX6_refuseIfSettled yX6_refuseIfSettled, Cond.code yX6_refuseIfSettled cX6_refuseIfSettled 2 none, Cond.methodLink RX6 94 yX6_sendPledgesBack, Cond.instanceMethod yX6_sendPledgesBack, Cond.selects RX6 yX6_sendPledgesBack yX6_sendPledgesBack, Cond.code yX6_sendPledgesBack cX6_sendPledgesBack 8 (some .int), Cond.fieldLink RX6 215 "Tureenlist$Wish" "pledges" "Ljava/util/ArrayList;", Cond.classLink RX6 218 "Tureenlist$Pledge", Cond.fieldLink RX6 411 "Tureenlist$Pledge" "pence" "I", Cond.fieldLink RX6 414 "Tureenlist$Pledge" "by" "LTureenlist$Guest;", Cond.methodLink RX6 405 yX6_payBack, Cond.instanceMethod yX6_payBack, Cond.selects RX6 yX6_payBack yX6_payBack, Cond.code yX6_payBack cX6_payBack 3 none]
def wsL_law0_r20 : List Cond := [Cond.methodLink RX6 415 yJx4a65c_remove_915e3, Cond.instanceMethod yJx4a65c_remove_915e3, Cond.selects RJx4a65c yJx4a65c_remove_915e3 yJx4a65c_remove_915e3, Cond.code yJx4a65c_remove_915e3 cJx4a65c_remove_915e3 4 (some (.object "java/lang/Object")), Cond.methodLink RJx4a65c 144 yJx4a65c_fastRemove_b59b0, Cond.instanceMethod yJx4a65c_fastRemove_b59b0, Cond.selects RJx4a65c yJx4a65c_fastRemove_b59b0 yJx4a65c_fastRemove_b59b0, Cond.code yJx4a65c_fastRemove_b59b0 cJx4a65c_fastRemove_b59b0 4 none, Cond.methodLink RJx4a65c 112 arraycopyName, Cond.methodLink RL 43 yX6_strike, Cond.instanceMethod yX6_strike, Cond.selects RX6 yX6_strike yX6_strike, Cond.code yX6_strike cX6_strike 3 (some .int), Cond.methodLink RL 46 yX6_apart, Cond.instanceMethod yX6_apart, Cond.selects RX6 yX6_apart yX6_apart, Cond.code yX6_apart cX6_apart 2 (some .int), Cond.methodLink RL 49 yX6_join, Cond.instanceMethod yX6_join, Cond.selects RX6 yX6_join yX6_join, Cond.code yX6_join cX6_join 4 (some .int), Cond.methodLink RX6 119 yX6_showAllDeeds, Cond.instanceMethod yX6_showAllDeeds, Cond.selects RX6 yX6_showAllDeeds yX6_showAllDeeds]
def wsL_law0_r21 : List Cond := [Cond.code yX6_showAllDeeds cX6_showAllDeeds 2 none, Cond.methodLink RX6 176 ⟨"Tureenlist$Gift", "showTo", "(I)V"⟩, Cond.sameMethod "Tureenlist$Gift" "Tureenlist$Deed" "showTo" "(I)V", Cond.selects RX1 ⟨"Tureenlist$Gift", "showTo", "(I)V"⟩ yX0_showTo, Cond.instanceMethod yX0_showTo, Cond.code yX0_showTo cX0_showTo 2 none, Cond.fieldLink RX0 17 "Tureenlist$Deed" "till" "I", Cond.methodLink RX6 151 ⟨"Tureenlist$Hold", "showTo", "(I)V"⟩, Cond.sameMethod "Tureenlist$Hold" "Tureenlist$Deed" "showTo" "(I)V", Cond.selects RX3 ⟨"Tureenlist$Hold", "showTo", "(I)V"⟩ yX0_showTo, Cond.methodLink RX6 126 yX6_takeBackTooMany, Cond.instanceMethod yX6_takeBackTooMany, Cond.selects RX6 yX6_takeBackTooMany yX6_takeBackTooMany, Cond.code yX6_takeBackTooMany cX6_takeBackTooMany 5 (some .int), Cond.methodLink RX6 421 yX6_takeBackLast, Cond.instanceMethod yX6_takeBackLast, Cond.selects RX6 yX6_takeBackLast yX6_takeBackLast, Cond.code yX6_takeBackLast cX6_takeBackLast 5 none, Cond.methodLink RX6 424 yX1_isBehind, Cond.instanceMethod yX1_isBehind, Cond.selects RX1 yX1_isBehind yX1_isBehind, Cond.code yX1_isBehind cX1_isBehind 2 (some .boolean), Cond.fieldLink RX1 21 "Tureenlist$Gift" "since" "I", Cond.fieldLink RX1 24 "Tureenlist$Gift" "till" "I"]
def wsL_law0_r22 : List Cond := [Cond.fieldLink RX1 9 "Tureenlist$Gift" "number" "I", Cond.methodLink RX6 194 yX6_endGift, Cond.instanceMethod yX6_endGift, Cond.selects RX6 yX6_endGift yX6_endGift, Cond.code yX6_endGift cX6_endGift 3 (some .int), Cond.methodLink RL 52 yX6_hold, Cond.instanceMethod yX6_hold, Cond.selects RX6 yX6_hold yX6_hold, Cond.code yX6_hold cX6_hold 9 (some .int), Cond.classLink RX6 143 RX3, Cond.instantiable RX3 8, Cond.methodLink RX6 148 yX3_init, Cond.instanceMethod yX3_init, Cond.code yX3_init cX3_init 6 none, Cond.methodLink RX3 1 yX0_init, Cond.instanceMethod yX0_init, Cond.code yX0_init cX0_init 5 none, Cond.methodLink RX0 1 objectInit, Cond.fieldLink RX0 7 "Tureenlist$Deed" "of" "LTureenlist$Wish;", Cond.fieldLink RX0 13 "Tureenlist$Deed" "by" "LTureenlist$Guest;", Cond.fieldLink RX0 21 "Tureenlist$Deed" "since" "I", Cond.methodLink RL 56 yX6_giveBack, Cond.instanceMethod yX6_giveBack, Cond.selects RX6 yX6_giveBack yX6_giveBack]
def wsL_law0_r23 : List Cond := [Cond.code yX6_giveBack cX6_giveBack 7 (some .int), Cond.methodLink RL 59 yX6_pledge, Cond.instanceMethod yX6_pledge, Cond.selects RX6 yX6_pledge yX6_pledge, Cond.code yX6_pledge cX6_pledge 7 (some .int), Cond.classLink RX6 218 RX4, Cond.instantiable RX4 2, Cond.initialized RX4, Cond.methodLink RX6 167 yX6_pay, Cond.instanceMethod yX6_pay, Cond.selects RX6 yX6_pay yX6_pay, Cond.code yX6_pay cX6_pay 3 none, Cond.methodLink RX6 220 yX4_init, Cond.instanceMethod yX4_init, Cond.code yX4_init cX4_init 3 none, Cond.methodLink RX4 1 objectInit, Cond.fieldLink RX4 7 "Tureenlist$Pledge" "by" "LTureenlist$Guest;", Cond.fieldLink RX4 13 "Tureenlist$Pledge" "pence" "I", Cond.methodLink RL 63 yX6_pass, Cond.instanceMethod yX6_pass, Cond.selects RX6 yX6_pass yX6_pass, Cond.code yX6_pass cX6_pass 2 (some .int), Cond.methodLink RL 66 yX6_buy, Cond.instanceMethod yX6_buy]
def wsL_law0_r24 : List Cond := [Cond.selects RX6 yX6_buy yX6_buy, Cond.code yX6_buy cX6_buy 8 (some .int), Cond.classLink RX6 171 RX1, Cond.instantiable RX1 9, Cond.methodLink RX6 163 yX6_takePiece, Cond.instanceMethod yX6_takePiece, Cond.selects RX6 yX6_takePiece yX6_takePiece, Cond.code yX6_takePiece cX6_takePiece 5 none, Cond.fieldLink RX6 443 "Tureenlist$Hold" "used" "Z", Cond.methodLink RX6 439 yX6_servingHold, Cond.instanceMethod yX6_servingHold, Cond.selects RX6 yX6_servingHold yX6_servingHold, Cond.code yX6_servingHold cX6_servingHold 6 (some .int), Cond.methodLink RX6 173 yX1_init, Cond.instanceMethod yX1_init, Cond.code yX1_init cX1_init 7 none, Cond.fieldLink RX1 15 "Tureenlist$Gift" "paid" "I", Cond.methodLink RX1 3 yX0_init, Cond.methodLink RL 90 yL_isFair, Cond.static yL_isFair, Cond.code yL_isFair cL_isFair 10 (some .boolean), Cond.methodLink RL 102 yX6_ofTill, Cond.methodLink RL 105 yX6_ofWish, Cond.methodLink RL 94 yL_isTaken]
def wsL_law0_r25 : List Cond := [Cond.static yL_isTaken, Cond.code yL_isTaken cL_isTaken 3 (some .boolean), Cond.methodLink RL 98 yL_arePence, Cond.static yL_arePence, Cond.code yL_arePence cL_arePence 4 (some .boolean), Cond.methodLink RL 112 yX6_ofGuest, Cond.methodLink RL 108 yX6_isSound]
def wsL_law0 : List Cond := (wsL_law0_r1 ++ (wsL_law0_r2 ++ (wsL_law0_r3 ++ (wsL_law0_r4 ++ (wsL_law0_r5 ++ (wsL_law0_r6 ++ (wsL_law0_r7 ++ (wsL_law0_r8 ++ (wsL_law0_r9 ++ (wsL_law0_r10 ++ (wsL_law0_r11 ++ (wsL_law0_r12 ++ (wsL_law0_r13 ++ (wsL_law0_r14 ++ (wsL_law0_r15 ++ (wsL_law0_r16 ++ (wsL_law0_r17 ++ (wsL_law0_r18 ++ (wsL_law0_r19 ++ (wsL_law0_r20 ++ (wsL_law0_r21 ++ (wsL_law0_r22 ++ (wsL_law0_r23 ++ (wsL_law0_r24 ++ wsL_law0_r25)))))))))))))))))))))))) ++ wsX60 ++ wsJx4a65c0 ++ wsX50 ++ wsX20 ++ wsX10 ++ wsX30 ++ wsX40 ++ ([] : List Cond)
def wsL_law : List Cond := wsL_law0 ++ (vx_atS RX6 33 "java/lang/IllegalArgumentException" ["java/lang/RuntimeException", "java/lang/Exception"]).filter goodWord ++ (vx_atS RX6 55 "java/lang/IllegalStateException" ["java/lang/RuntimeException", "java/lang/Exception"]).filter goodWord ++ (vx_atS RX6 286 "java/lang/IndexOutOfBoundsException" ["java/lang/RuntimeException", "java/lang/Exception"]).filter goodWord
abbrev vwCl : List vw_C := [(RJx4a65c, TJx4a65c, 3), (RX1, TX1, 9), (RX2, TX2, 2), (RX3, TX3, 8), (RX4, TX4, 2), (RX5, TX5, 7), (RX6, TX6, 9)]
end
section
theorem dJ6_bitCount_0f7a4_0 : decode cJ6_bitCount_0f7a4 0 = .ok (.iload_n 0, 1) := by decide +kernel
theorem dJ6_bitCount_0f7a4_1 : decode cJ6_bitCount_0f7a4 1 = .ok (.iload_n 0, 1) := by decide +kernel
theorem dJ6_bitCount_0f7a4_2 : decode cJ6_bitCount_0f7a4 2 = .ok (.iconst 1, 1) := by decide +kernel
theorem dJ6_bitCount_0f7a4_3 : decode cJ6_bitCount_0f7a4 3 = .ok (.iushr, 1) := by decide +kernel
theorem dJ6_bitCount_0f7a4_4 : decode cJ6_bitCount_0f7a4 4 = .ok (.ldc_w 265, 3) := by decide +kernel
theorem dJ6_bitCount_0f7a4_7 : decode cJ6_bitCount_0f7a4 7 = .ok (.iand, 1) := by decide +kernel
theorem dJ6_bitCount_0f7a4_8 : decode cJ6_bitCount_0f7a4 8 = .ok (.isub, 1) := by decide +kernel
theorem dJ6_bitCount_0f7a4_9 : decode cJ6_bitCount_0f7a4 9 = .ok (.istore_n 0, 1) := by decide +kernel
theorem dJ6_bitCount_0f7a4_10 : decode cJ6_bitCount_0f7a4 10 = .ok (.iload_n 0, 1) := by decide +kernel
theorem dJ6_bitCount_0f7a4_11 : decode cJ6_bitCount_0f7a4 11 = .ok (.ldc_w 266, 3) := by decide +kernel
theorem dJ6_bitCount_0f7a4_14 : decode cJ6_bitCount_0f7a4 14 = .ok (.iand, 1) := by decide +kernel
theorem dJ6_bitCount_0f7a4_15 : decode cJ6_bitCount_0f7a4 15 = .ok (.iload_n 0, 1) := by decide +kernel
theorem dJ6_bitCount_0f7a4_16 : decode cJ6_bitCount_0f7a4 16 = .ok (.iconst 2, 1) := by decide +kernel
theorem dJ6_bitCount_0f7a4_17 : decode cJ6_bitCount_0f7a4 17 = .ok (.iushr, 1) := by decide +kernel
theorem dJ6_bitCount_0f7a4_18 : decode cJ6_bitCount_0f7a4 18 = .ok (.ldc_w 266, 3) := by decide +kernel
theorem dJ6_bitCount_0f7a4_21 : decode cJ6_bitCount_0f7a4 21 = .ok (.iand, 1) := by decide +kernel
theorem dJ6_bitCount_0f7a4_22 : decode cJ6_bitCount_0f7a4 22 = .ok (.iadd, 1) := by decide +kernel
theorem dJ6_bitCount_0f7a4_23 : decode cJ6_bitCount_0f7a4 23 = .ok (.istore_n 0, 1) := by decide +kernel
theorem dJ6_bitCount_0f7a4_24 : decode cJ6_bitCount_0f7a4 24 = .ok (.iload_n 0, 1) := by decide +kernel
theorem dJ6_bitCount_0f7a4_25 : decode cJ6_bitCount_0f7a4 25 = .ok (.iload_n 0, 1) := by decide +kernel
theorem dJ6_bitCount_0f7a4_26 : decode cJ6_bitCount_0f7a4 26 = .ok (.iconst 4, 1) := by decide +kernel
theorem dJ6_bitCount_0f7a4_27 : decode cJ6_bitCount_0f7a4 27 = .ok (.iushr, 1) := by decide +kernel
theorem dJ6_bitCount_0f7a4_28 : decode cJ6_bitCount_0f7a4 28 = .ok (.iadd, 1) := by decide +kernel
theorem dJ6_bitCount_0f7a4_29 : decode cJ6_bitCount_0f7a4 29 = .ok (.ldc_w 267, 3) := by decide +kernel
theorem dJ6_bitCount_0f7a4_32 : decode cJ6_bitCount_0f7a4 32 = .ok (.iand, 1) := by decide +kernel
theorem dJ6_bitCount_0f7a4_33 : decode cJ6_bitCount_0f7a4 33 = .ok (.istore_n 0, 1) := by decide +kernel
theorem dJ6_bitCount_0f7a4_34 : decode cJ6_bitCount_0f7a4 34 = .ok (.iload_n 0, 1) := by decide +kernel
theorem dJ6_bitCount_0f7a4_35 : decode cJ6_bitCount_0f7a4 35 = .ok (.iload_n 0, 1) := by decide +kernel
theorem dJ6_bitCount_0f7a4_36 : decode cJ6_bitCount_0f7a4 36 = .ok (.bipush 8, 2) := by decide +kernel
theorem dJ6_bitCount_0f7a4_38 : decode cJ6_bitCount_0f7a4 38 = .ok (.iushr, 1) := by decide +kernel
theorem dJ6_bitCount_0f7a4_39 : decode cJ6_bitCount_0f7a4 39 = .ok (.iadd, 1) := by decide +kernel
theorem dJ6_bitCount_0f7a4_40 : decode cJ6_bitCount_0f7a4 40 = .ok (.istore_n 0, 1) := by decide +kernel
theorem dJ6_bitCount_0f7a4_41 : decode cJ6_bitCount_0f7a4 41 = .ok (.iload_n 0, 1) := by decide +kernel
theorem dJ6_bitCount_0f7a4_42 : decode cJ6_bitCount_0f7a4 42 = .ok (.iload_n 0, 1) := by decide +kernel
theorem dJ6_bitCount_0f7a4_43 : decode cJ6_bitCount_0f7a4 43 = .ok (.bipush 16, 2) := by decide +kernel
theorem dJ6_bitCount_0f7a4_45 : decode cJ6_bitCount_0f7a4 45 = .ok (.iushr, 1) := by decide +kernel
theorem dJ6_bitCount_0f7a4_46 : decode cJ6_bitCount_0f7a4 46 = .ok (.iadd, 1) := by decide +kernel
theorem dJ6_bitCount_0f7a4_47 : decode cJ6_bitCount_0f7a4 47 = .ok (.istore_n 0, 1) := by decide +kernel
theorem dJ6_bitCount_0f7a4_48 : decode cJ6_bitCount_0f7a4 48 = .ok (.iload_n 0, 1) := by decide +kernel
theorem dJ6_bitCount_0f7a4_49 : decode cJ6_bitCount_0f7a4 49 = .ok (.bipush 63, 2) := by decide +kernel
theorem dJ6_bitCount_0f7a4_51 : decode cJ6_bitCount_0f7a4 51 = .ok (.iand, 1) := by decide +kernel
theorem dJ6_bitCount_0f7a4_52 : decode cJ6_bitCount_0f7a4 52 = .ok (.ireturn, 1) := by decide +kernel
theorem dJ9_max_7cf53_0 : decode cJ9_max_7cf53 0 = .ok (.iload_n 0, 1) := by decide +kernel
theorem dJ9_max_7cf53_1 : decode cJ9_max_7cf53 1 = .ok (.iload_n 1, 1) := by decide +kernel
theorem dJ9_max_7cf53_2 : decode cJ9_max_7cf53 2 = .ok (.if_icmp .lt 7, 3) := by decide +kernel
theorem dJ9_max_7cf53_5 : decode cJ9_max_7cf53 5 = .ok (.iload_n 0, 1) := by decide +kernel
theorem dJ9_max_7cf53_6 : decode cJ9_max_7cf53 6 = .ok (.goto 4, 3) := by decide +kernel
theorem dJ9_max_7cf53_9 : decode cJ9_max_7cf53 9 = .ok (.iload_n 1, 1) := by decide +kernel
theorem dJ9_max_7cf53_10 : decode cJ9_max_7cf53 10 = .ok (.ireturn, 1) := by decide +kernel
theorem dJ9_min_7cf53_0 : decode cJ9_min_7cf53 0 = .ok (.iload_n 0, 1) := by decide +kernel
theorem dJ9_min_7cf53_1 : decode cJ9_min_7cf53 1 = .ok (.iload_n 1, 1) := by decide +kernel
theorem dJ9_min_7cf53_2 : decode cJ9_min_7cf53 2 = .ok (.if_icmp .gt 7, 3) := by decide +kernel
theorem dJ9_min_7cf53_5 : decode cJ9_min_7cf53 5 = .ok (.iload_n 0, 1) := by decide +kernel
theorem dJ9_min_7cf53_6 : decode cJ9_min_7cf53 6 = .ok (.goto 4, 3) := by decide +kernel
theorem dJ9_min_7cf53_9 : decode cJ9_min_7cf53 9 = .ok (.iload_n 1, 1) := by decide +kernel
theorem dJ9_min_7cf53_10 : decode cJ9_min_7cf53 10 = .ok (.ireturn, 1) := by decide +kernel
theorem dJxa1e45_init_da8c8_0 : decode cJxa1e45_init_da8c8 0 = .ok (.aload_n 0, 1) := by decide +kernel
theorem dJxa1e45_init_da8c8_1 : decode cJxa1e45_init_da8c8 1 = .ok (.invokespecial 1, 3) := by decide +kernel
theorem dJxa1e45_init_da8c8_4 : decode cJxa1e45_init_da8c8 4 = .ok (.return_, 1) := by decide +kernel
set_option maxRecDepth 20000 in
theorem ggJxc12de_init_da8c8_Jxa1e45_init_da8c8 : GoodIn wsJxc12de_init_da8c8 wsJxa1e45_init_da8c8 := goodIn_r _ [5, 6, 7, 8] (by decide +kernel) (by decide +kernel)
set_option maxRecDepth 20000 in
theorem gJxc12de_init_da8c8_Jxa1e45_init_da8c8 : GoodIn wsJxc12de_init_da8c8 (wsJxa1e45_init_da8c8) := ggJxc12de_init_da8c8_Jxa1e45_init_da8c8
theorem dJxc12de_init_da8c8_0 : decode cJxc12de_init_da8c8 0 = .ok (.aload_n 0, 1) := by decide +kernel
theorem dJxc12de_init_da8c8_1 : decode cJxc12de_init_da8c8 1 = .ok (.invokespecial 1, 3) := by decide +kernel
theorem dJxc12de_init_da8c8_4 : decode cJxc12de_init_da8c8 4 = .ok (.aload_n 0, 1) := by decide +kernel
theorem dJxc12de_init_da8c8_5 : decode cJxc12de_init_da8c8 5 = .ok (.iconst 0, 1) := by decide +kernel
theorem dJxc12de_init_da8c8_6 : decode cJxc12de_init_da8c8 6 = .ok (.putfield 7, 3) := by decide +kernel
theorem dJxc12de_init_da8c8_9 : decode cJxc12de_init_da8c8 9 = .ok (.return_, 1) := by decide +kernel
set_option maxRecDepth 20000 in
theorem ggJx4a65c_init_da8c8_Jxc12de_init_da8c8 : GoodIn wsJx4a65c_init_da8c8 wsJxc12de_init_da8c8 := goodIn_r _ [6, 7, 8, 9, 10, 11, 12, 13, 14, 15, 16, 17] (by decide +kernel) (by decide +kernel)
set_option maxRecDepth 20000 in
theorem gJx4a65c_init_da8c8_Jxc12de_init_da8c8 : GoodIn wsJx4a65c_init_da8c8 (wsJxc12de_init_da8c8) := ggJx4a65c_init_da8c8_Jxc12de_init_da8c8
theorem dJx4a65c_init_da8c8_0 : decode cJx4a65c_init_da8c8 0 = .ok (.aload_n 0, 1) := by decide +kernel
theorem dJx4a65c_init_da8c8_1 : decode cJx4a65c_init_da8c8 1 = .ok (.invokespecial 1, 3) := by decide +kernel
theorem dJx4a65c_init_da8c8_4 : decode cJx4a65c_init_da8c8 4 = .ok (.aload_n 0, 1) := by decide +kernel
theorem dJx4a65c_init_da8c8_5 : decode cJx4a65c_init_da8c8 5 = .ok (.getstatic 39, 3) := by decide +kernel
theorem dJx4a65c_init_da8c8_8 : decode cJx4a65c_init_da8c8 8 = .ok (.putfield 9, 3) := by decide +kernel
theorem dJx4a65c_init_da8c8_11 : decode cJx4a65c_init_da8c8 11 = .ok (.return_, 1) := by decide +kernel
set_option maxRecDepth 20000 in
theorem ggJx4a65c_grow_92f84_J8_newLength_cabcc : GoodIn wsJx4a65c_grow_92f84 wsJ8_newLength_cabcc := goodIn_r _ [11, 12, 4, 5, 6, 13, 14, 15, 10, 16] (by decide +kernel) (by decide +kernel)
set_option maxRecDepth 20000 in
theorem gJx4a65c_grow_92f84_J8_newLength_cabcc : GoodIn wsJx4a65c_grow_92f84 (va_wsS RJx4a65c 73 yJ8_newLength_cabcc wsJ8_newLength_cabcc) := goodIn_app (goodIn_of _ (by decide +kernel)) ggJx4a65c_grow_92f84_J8_newLength_cabcc
set_option maxRecDepth 20000 in
theorem ggJx4a65c_grow_92f84_J7_copyOf_1904c : GoodIn wsJx4a65c_grow_92f84 wsJ7_copyOf_1904c := goodIn_r _ [20, 21, 22, 23, 24, 25, 26, 19, 27, 28, 29, 30, 31, 5, 32, 33, 34, 35, 36] (by decide +kernel) (by decide +kernel)
set_option maxRecDepth 20000 in
theorem gJx4a65c_grow_92f84_J7_copyOf_1904c : GoodIn wsJx4a65c_grow_92f84 (va_wsS RJx4a65c 66 yJ7_copyOf_1904c wsJ7_copyOf_1904c) := goodIn_app (goodIn_of _ (by decide +kernel)) ggJx4a65c_grow_92f84_J7_copyOf_1904c
theorem dJx4a65c_grow_92f84_0 : decode cJx4a65c_grow_92f84 0 = .ok (.aload_n 0, 1) := by decide +kernel
theorem dJx4a65c_grow_92f84_1 : decode cJx4a65c_grow_92f84 1 = .ok (.getfield 9, 3) := by decide +kernel
theorem dJx4a65c_grow_92f84_4 : decode cJx4a65c_grow_92f84 4 = .ok (.arraylength, 1) := by decide +kernel
theorem dJx4a65c_grow_92f84_5 : decode cJx4a65c_grow_92f84 5 = .ok (.istore_n 2, 1) := by decide +kernel
theorem dJx4a65c_grow_92f84_6 : decode cJx4a65c_grow_92f84 6 = .ok (.iload_n 2, 1) := by decide +kernel
theorem dJx4a65c_grow_92f84_7 : decode cJx4a65c_grow_92f84 7 = .ok (.ifCond .gt 13, 3) := by decide +kernel
theorem dJx4a65c_grow_92f84_10 : decode cJx4a65c_grow_92f84 10 = .ok (.aload_n 0, 1) := by decide +kernel
theorem dJx4a65c_grow_92f84_11 : decode cJx4a65c_grow_92f84 11 = .ok (.getfield 9, 3) := by decide +kernel
theorem dJx4a65c_grow_92f84_14 : decode cJx4a65c_grow_92f84 14 = .ok (.getstatic 39, 3) := by decide +kernel
theorem dJx4a65c_grow_92f84_17 : decode cJx4a65c_grow_92f84 17 = .ok (.if_acmp .eq 28, 3) := by decide +kernel
theorem dJx4a65c_grow_92f84_20 : decode cJx4a65c_grow_92f84 20 = .ok (.iload_n 2, 1) := by decide +kernel
theorem dJx4a65c_grow_92f84_21 : decode cJx4a65c_grow_92f84 21 = .ok (.iload_n 1, 1) := by decide +kernel
theorem dJx4a65c_grow_92f84_22 : decode cJx4a65c_grow_92f84 22 = .ok (.iload_n 2, 1) := by decide +kernel
theorem dJx4a65c_grow_92f84_23 : decode cJx4a65c_grow_92f84 23 = .ok (.isub, 1) := by decide +kernel
theorem dJx4a65c_grow_92f84_24 : decode cJx4a65c_grow_92f84 24 = .ok (.iload_n 2, 1) := by decide +kernel
theorem dJx4a65c_grow_92f84_25 : decode cJx4a65c_grow_92f84 25 = .ok (.iconst 1, 1) := by decide +kernel
theorem dJx4a65c_grow_92f84_26 : decode cJx4a65c_grow_92f84 26 = .ok (.ishr, 1) := by decide +kernel
theorem dJx4a65c_grow_92f84_27 : decode cJx4a65c_grow_92f84 27 = .ok (.invokestatic 73, 3) := by decide +kernel
theorem dJx4a65c_grow_92f84_30 : decode cJx4a65c_grow_92f84 30 = .ok (.istore_n 3, 1) := by decide +kernel
theorem dJx4a65c_grow_92f84_31 : decode cJx4a65c_grow_92f84 31 = .ok (.aload_n 0, 1) := by decide +kernel
theorem dJx4a65c_grow_92f84_32 : decode cJx4a65c_grow_92f84 32 = .ok (.aload_n 0, 1) := by decide +kernel
theorem dJx4a65c_grow_92f84_33 : decode cJx4a65c_grow_92f84 33 = .ok (.getfield 9, 3) := by decide +kernel
theorem dJx4a65c_grow_92f84_36 : decode cJx4a65c_grow_92f84 36 = .ok (.iload_n 3, 1) := by decide +kernel
theorem dJx4a65c_grow_92f84_37 : decode cJx4a65c_grow_92f84 37 = .ok (.invokestatic 66, 3) := by decide +kernel
theorem dJx4a65c_grow_92f84_40 : decode cJx4a65c_grow_92f84 40 = .ok (.dup_x1, 1) := by decide +kernel
theorem dJx4a65c_grow_92f84_41 : decode cJx4a65c_grow_92f84 41 = .ok (.putfield 9, 3) := by decide +kernel
theorem dJx4a65c_grow_92f84_44 : decode cJx4a65c_grow_92f84 44 = .ok (.areturn, 1) := by decide +kernel
theorem dJx4a65c_grow_92f84_45 : decode cJx4a65c_grow_92f84 45 = .ok (.aload_n 0, 1) := by decide +kernel
theorem dJx4a65c_grow_92f84_46 : decode cJx4a65c_grow_92f84 46 = .ok (.bipush 10, 2) := by decide +kernel
theorem dJx4a65c_grow_92f84_48 : decode cJx4a65c_grow_92f84 48 = .ok (.iload_n 1, 1) := by decide +kernel
theorem dJx4a65c_grow_92f84_49 : decode cJx4a65c_grow_92f84 49 = .ok (.invokestatic 79, 3) := by decide +kernel
theorem dJx4a65c_grow_92f84_52 : decode cJx4a65c_grow_92f84 52 = .ok (.anewarray 7, 3) := by decide +kernel
theorem dJx4a65c_grow_92f84_55 : decode cJx4a65c_grow_92f84 55 = .ok (.dup_x1, 1) := by decide +kernel
theorem dJx4a65c_grow_92f84_56 : decode cJx4a65c_grow_92f84 56 = .ok (.putfield 9, 3) := by decide +kernel
theorem dJx4a65c_grow_92f84_59 : decode cJx4a65c_grow_92f84 59 = .ok (.areturn, 1) := by decide +kernel
set_option maxRecDepth 20000 in
theorem ggJx4a65c_grow_d5877_Jx4a65c_grow_92f84 : GoodIn wsJx4a65c_grow_d5877 wsJx4a65c_grow_92f84 := goodIn_r _ [6, 7, 8, 9, 10, 11, 12, 13, 14, 15, 16, 17, 18, 19, 20, 21, 22, 23, 24, 25, 26, 27, 28, 29, 30, 31, 32, 33, 34, 35, 36, 37, 38, 39, 40, 41, 42, 43, 44, 45] (by decide +kernel) (by decide +kernel)
set_option maxRecDepth 20000 in
theorem gJx4a65c_grow_d5877_Jx4a65c_grow_92f84 : GoodIn wsJx4a65c_grow_d5877 (wsV RJx4a65c 69 RJx4a65c yJx4a65c_grow_92f84 wsJx4a65c_grow_92f84) := goodIn_app (goodIn_of _ (by decide +kernel)) ggJx4a65c_grow_d5877_Jx4a65c_grow_92f84
theorem dJx4a65c_grow_d5877_0 : decode cJx4a65c_grow_d5877 0 = .ok (.aload_n 0, 1) := by decide +kernel
theorem dJx4a65c_grow_d5877_1 : decode cJx4a65c_grow_d5877 1 = .ok (.aload_n 0, 1) := by decide +kernel
theorem dJx4a65c_grow_d5877_2 : decode cJx4a65c_grow_d5877 2 = .ok (.getfield 48, 3) := by decide +kernel
theorem dJx4a65c_grow_d5877_5 : decode cJx4a65c_grow_d5877 5 = .ok (.iconst 1, 1) := by decide +kernel
theorem dJx4a65c_grow_d5877_6 : decode cJx4a65c_grow_d5877 6 = .ok (.iadd, 1) := by decide +kernel
theorem dJx4a65c_grow_d5877_7 : decode cJx4a65c_grow_d5877 7 = .ok (.invokevirtual 69, 3) := by decide +kernel
theorem dJx4a65c_grow_d5877_10 : decode cJx4a65c_grow_d5877 10 = .ok (.areturn, 1) := by decide +kernel
theorem dJx4a65c_size_8abf5_0 : decode cJx4a65c_size_8abf5 0 = .ok (.aload_n 0, 1) := by decide +kernel
theorem dJx4a65c_size_8abf5_1 : decode cJx4a65c_size_8abf5 1 = .ok (.getfield 48, 3) := by decide +kernel
theorem dJx4a65c_size_8abf5_4 : decode cJx4a65c_size_8abf5 4 = .ok (.ireturn, 1) := by decide +kernel
theorem dJx4a65c_elementData_915e3_0 : decode cJx4a65c_elementData_915e3 0 = .ok (.aload_n 0, 1) := by decide +kernel
theorem dJx4a65c_elementData_915e3_1 : decode cJx4a65c_elementData_915e3 1 = .ok (.getfield 9, 3) := by decide +kernel
theorem dJx4a65c_elementData_915e3_4 : decode cJx4a65c_elementData_915e3 4 = .ok (.iload_n 1, 1) := by decide +kernel
theorem dJx4a65c_elementData_915e3_5 : decode cJx4a65c_elementData_915e3 5 = .ok (.aaload, 1) := by decide +kernel
theorem dJx4a65c_elementData_915e3_6 : decode cJx4a65c_elementData_915e3 6 = .ok (.areturn, 1) := by decide +kernel
set_option maxRecDepth 20000 in
theorem ggJx4a65c_get_915e3_J15_checkIndex_7cf53 : GoodIn wsJx4a65c_get_915e3 wsJ15_checkIndex_7cf53 := goodIn_r _ [5, 6, 7, 8, 9] (by decide +kernel) (by decide +kernel)
set_option maxRecDepth 20000 in
theorem gJx4a65c_get_915e3_J15_checkIndex_7cf53 : GoodIn wsJx4a65c_get_915e3 (va_wsS RJx4a65c 118 yJ15_checkIndex_7cf53 wsJ15_checkIndex_7cf53) := goodIn_app (goodIn_of _ (by decide +kernel)) ggJx4a65c_get_915e3_J15_checkIndex_7cf53
set_option maxRecDepth 20000 in
theorem ggJx4a65c_get_915e3_Jx4a65c_elementData_915e3 : GoodIn wsJx4a65c_get_915e3 wsJx4a65c_elementData_915e3 := goodIn_r _ [14, 15, 16, 17, 18] (by decide +kernel) (by decide +kernel)
set_option maxRecDepth 20000 in
theorem gJx4a65c_get_915e3_Jx4a65c_elementData_915e3 : GoodIn wsJx4a65c_get_915e3 (wsV RJx4a65c 123 RJx4a65c yJx4a65c_elementData_915e3 wsJx4a65c_elementData_915e3) := goodIn_app (goodIn_of _ (by decide +kernel)) ggJx4a65c_get_915e3_Jx4a65c_elementData_915e3
theorem dJx4a65c_get_915e3_0 : decode cJx4a65c_get_915e3 0 = .ok (.iload_n 1, 1) := by decide +kernel
theorem dJx4a65c_get_915e3_1 : decode cJx4a65c_get_915e3 1 = .ok (.aload_n 0, 1) := by decide +kernel
theorem dJx4a65c_get_915e3_2 : decode cJx4a65c_get_915e3 2 = .ok (.getfield 48, 3) := by decide +kernel
theorem dJx4a65c_get_915e3_5 : decode cJx4a65c_get_915e3 5 = .ok (.invokestatic 118, 3) := by decide +kernel
theorem dJx4a65c_get_915e3_8 : decode cJx4a65c_get_915e3 8 = .ok (.pop, 1) := by decide +kernel
theorem dJx4a65c_get_915e3_9 : decode cJx4a65c_get_915e3 9 = .ok (.aload_n 0, 1) := by decide +kernel
theorem dJx4a65c_get_915e3_10 : decode cJx4a65c_get_915e3 10 = .ok (.iload_n 1, 1) := by decide +kernel
theorem dJx4a65c_get_915e3_11 : decode cJx4a65c_get_915e3 11 = .ok (.invokevirtual 123, 3) := by decide +kernel
theorem dJx4a65c_get_915e3_14 : decode cJx4a65c_get_915e3 14 = .ok (.areturn, 1) := by decide +kernel
set_option maxRecDepth 20000 in
theorem ggJx4a65c_add_72be8_Jx4a65c_grow_d5877 : GoodIn wsJx4a65c_add_72be8 wsJx4a65c_grow_d5877 := goodIn_r _ [6, 1, 7, 8, 9, 5, 10, 11, 12, 13, 14, 15, 16, 17, 18, 19, 20, 21, 22, 23, 24, 25, 26, 27, 28, 29, 30, 31, 32, 33, 34, 35, 36, 37, 38, 39, 40, 41, 42, 43, 44, 45, 46, 47, 48, 49] (by decide +kernel) (by decide +kernel)
set_option maxRecDepth 20000 in
theorem gJx4a65c_add_72be8_Jx4a65c_grow_d5877 : GoodIn wsJx4a65c_add_72be8 (wsV RJx4a65c 129 RJx4a65c yJx4a65c_grow_d5877 wsJx4a65c_grow_d5877) := goodIn_app (goodIn_of _ (by decide +kernel)) ggJx4a65c_add_72be8_Jx4a65c_grow_d5877
theorem dJx4a65c_add_72be8_0 : decode cJx4a65c_add_72be8 0 = .ok (.iload_n 3, 1) := by decide +kernel
theorem dJx4a65c_add_72be8_1 : decode cJx4a65c_add_72be8 1 = .ok (.aload_n 2, 1) := by decide +kernel
theorem dJx4a65c_add_72be8_2 : decode cJx4a65c_add_72be8 2 = .ok (.arraylength, 1) := by decide +kernel
theorem dJx4a65c_add_72be8_3 : decode cJx4a65c_add_72be8 3 = .ok (.if_icmp .ne 8, 3) := by decide +kernel
theorem dJx4a65c_add_72be8_6 : decode cJx4a65c_add_72be8 6 = .ok (.aload_n 0, 1) := by decide +kernel
theorem dJx4a65c_add_72be8_7 : decode cJx4a65c_add_72be8 7 = .ok (.invokevirtual 129, 3) := by decide +kernel
theorem dJx4a65c_add_72be8_10 : decode cJx4a65c_add_72be8 10 = .ok (.astore_n 2, 1) := by decide +kernel
theorem dJx4a65c_add_72be8_11 : decode cJx4a65c_add_72be8 11 = .ok (.aload_n 2, 1) := by decide +kernel
theorem dJx4a65c_add_72be8_12 : decode cJx4a65c_add_72be8 12 = .ok (.iload_n 3, 1) := by decide +kernel
theorem dJx4a65c_add_72be8_13 : decode cJx4a65c_add_72be8 13 = .ok (.aload_n 1, 1) := by decide +kernel
theorem dJx4a65c_add_72be8_14 : decode cJx4a65c_add_72be8 14 = .ok (.aastore, 1) := by decide +kernel
theorem dJx4a65c_add_72be8_15 : decode cJx4a65c_add_72be8 15 = .ok (.aload_n 0, 1) := by decide +kernel
theorem dJx4a65c_add_72be8_16 : decode cJx4a65c_add_72be8 16 = .ok (.iload_n 3, 1) := by decide +kernel
theorem dJx4a65c_add_72be8_17 : decode cJx4a65c_add_72be8 17 = .ok (.iconst 1, 1) := by decide +kernel
theorem dJx4a65c_add_72be8_18 : decode cJx4a65c_add_72be8 18 = .ok (.iadd, 1) := by decide +kernel
theorem dJx4a65c_add_72be8_19 : decode cJx4a65c_add_72be8 19 = .ok (.putfield 48, 3) := by decide +kernel
theorem dJx4a65c_add_72be8_22 : decode cJx4a65c_add_72be8 22 = .ok (.return_, 1) := by decide +kernel
set_option maxRecDepth 20000 in
theorem ggJx4a65c_add_9ea2d_Jx4a65c_add_72be8 : GoodIn wsJx4a65c_add_9ea2d wsJx4a65c_add_72be8 := goodIn_r _ [9, 4, 10, 11, 12, 8, 13, 14, 15, 16, 17, 3, 18, 19, 20, 21, 22, 23, 24, 25, 26, 27, 28, 29, 30, 31, 32, 33, 34, 35, 36, 37, 38, 39, 40, 41, 42, 43, 44, 45, 46, 47, 48, 49, 50, 51, 52, 53, 54, 55] (by decide +kernel) (by decide +kernel)
set_option maxRecDepth 20000 in
theorem gJx4a65c_add_9ea2d_Jx4a65c_add_72be8 : GoodIn wsJx4a65c_add_9ea2d (wsV RJx4a65c 131 RJx4a65c yJx4a65c_add_72be8 wsJx4a65c_add_72be8) := goodIn_app (goodIn_of _ (by decide +kernel)) ggJx4a65c_add_9ea2d_Jx4a65c_add_72be8
theorem dJx4a65c_add_9ea2d_0 : decode cJx4a65c_add_9ea2d 0 = .ok (.aload_n 0, 1) := by decide +kernel
theorem dJx4a65c_add_9ea2d_1 : decode cJx4a65c_add_9ea2d 1 = .ok (.dup, 1) := by decide +kernel
theorem dJx4a65c_add_9ea2d_2 : decode cJx4a65c_add_9ea2d 2 = .ok (.getfield 63, 3) := by decide +kernel
theorem dJx4a65c_add_9ea2d_5 : decode cJx4a65c_add_9ea2d 5 = .ok (.iconst 1, 1) := by decide +kernel
theorem dJx4a65c_add_9ea2d_6 : decode cJx4a65c_add_9ea2d 6 = .ok (.iadd, 1) := by decide +kernel
theorem dJx4a65c_add_9ea2d_7 : decode cJx4a65c_add_9ea2d 7 = .ok (.putfield 63, 3) := by decide +kernel
theorem dJx4a65c_add_9ea2d_10 : decode cJx4a65c_add_9ea2d 10 = .ok (.aload_n 0, 1) := by decide +kernel
theorem dJx4a65c_add_9ea2d_11 : decode cJx4a65c_add_9ea2d 11 = .ok (.aload_n 1, 1) := by decide +kernel
theorem dJx4a65c_add_9ea2d_12 : decode cJx4a65c_add_9ea2d 12 = .ok (.aload_n 0, 1) := by decide +kernel
theorem dJx4a65c_add_9ea2d_13 : decode cJx4a65c_add_9ea2d 13 = .ok (.getfield 9, 3) := by decide +kernel
theorem dJx4a65c_add_9ea2d_16 : decode cJx4a65c_add_9ea2d 16 = .ok (.aload_n 0, 1) := by decide +kernel
theorem dJx4a65c_add_9ea2d_17 : decode cJx4a65c_add_9ea2d 17 = .ok (.getfield 48, 3) := by decide +kernel
theorem dJx4a65c_add_9ea2d_20 : decode cJx4a65c_add_9ea2d 20 = .ok (.invokevirtual 131, 3) := by decide +kernel
theorem dJx4a65c_add_9ea2d_23 : decode cJx4a65c_add_9ea2d 23 = .ok (.iconst 1, 1) := by decide +kernel
theorem dJx4a65c_add_9ea2d_24 : decode cJx4a65c_add_9ea2d 24 = .ok (.ireturn, 1) := by decide +kernel
set_option maxRecDepth 20000 in
theorem ggJx4a65c_remove_915e3_J15_checkIndex_7cf53 : GoodIn wsJx4a65c_remove_915e3 wsJ15_checkIndex_7cf53 := goodIn_r _ [6, 7, 8, 9, 10] (by decide +kernel) (by decide +kernel)
set_option maxRecDepth 20000 in
theorem gJx4a65c_remove_915e3_J15_checkIndex_7cf53 : GoodIn wsJx4a65c_remove_915e3 (va_wsS RJx4a65c 118 yJ15_checkIndex_7cf53 wsJ15_checkIndex_7cf53) := goodIn_app (goodIn_of _ (by decide +kernel)) ggJx4a65c_remove_915e3_J15_checkIndex_7cf53
set_option maxRecDepth 20000 in
theorem ggJx4a65c_remove_915e3_Jx4a65c_fastRemove_b59b0 : GoodIn wsJx4a65c_remove_915e3 wsJx4a65c_fastRemove_b59b0 := goodIn_r _ [15, 16, 17, 1, 18, 19, 20, 21, 22, 23, 24] (by decide +kernel) (by decide +kernel)
set_option maxRecDepth 20000 in
theorem gJx4a65c_remove_915e3_Jx4a65c_fastRemove_b59b0 : GoodIn wsJx4a65c_remove_915e3 (wsV RJx4a65c 144 RJx4a65c yJx4a65c_fastRemove_b59b0 wsJx4a65c_fastRemove_b59b0) := goodIn_app (goodIn_of _ (by decide +kernel)) ggJx4a65c_remove_915e3_Jx4a65c_fastRemove_b59b0
theorem dJx4a65c_remove_915e3_0 : decode cJx4a65c_remove_915e3 0 = .ok (.iload_n 1, 1) := by decide +kernel
theorem dJx4a65c_remove_915e3_1 : decode cJx4a65c_remove_915e3 1 = .ok (.aload_n 0, 1) := by decide +kernel
theorem dJx4a65c_remove_915e3_2 : decode cJx4a65c_remove_915e3 2 = .ok (.getfield 48, 3) := by decide +kernel
theorem dJx4a65c_remove_915e3_5 : decode cJx4a65c_remove_915e3 5 = .ok (.invokestatic 118, 3) := by decide +kernel
theorem dJx4a65c_remove_915e3_8 : decode cJx4a65c_remove_915e3 8 = .ok (.pop, 1) := by decide +kernel
theorem dJx4a65c_remove_915e3_9 : decode cJx4a65c_remove_915e3 9 = .ok (.aload_n 0, 1) := by decide +kernel
theorem dJx4a65c_remove_915e3_10 : decode cJx4a65c_remove_915e3 10 = .ok (.getfield 9, 3) := by decide +kernel
theorem dJx4a65c_remove_915e3_13 : decode cJx4a65c_remove_915e3 13 = .ok (.astore_n 2, 1) := by decide +kernel
theorem dJx4a65c_remove_915e3_14 : decode cJx4a65c_remove_915e3 14 = .ok (.aload_n 2, 1) := by decide +kernel
theorem dJx4a65c_remove_915e3_15 : decode cJx4a65c_remove_915e3 15 = .ok (.iload_n 1, 1) := by decide +kernel
theorem dJx4a65c_remove_915e3_16 : decode cJx4a65c_remove_915e3 16 = .ok (.aaload, 1) := by decide +kernel
theorem dJx4a65c_remove_915e3_17 : decode cJx4a65c_remove_915e3 17 = .ok (.astore_n 3, 1) := by decide +kernel
theorem dJx4a65c_remove_915e3_18 : decode cJx4a65c_remove_915e3 18 = .ok (.aload_n 0, 1) := by decide +kernel
theorem dJx4a65c_remove_915e3_19 : decode cJx4a65c_remove_915e3 19 = .ok (.aload_n 2, 1) := by decide +kernel
theorem dJx4a65c_remove_915e3_20 : decode cJx4a65c_remove_915e3 20 = .ok (.iload_n 1, 1) := by decide +kernel
theorem dJx4a65c_remove_915e3_21 : decode cJx4a65c_remove_915e3 21 = .ok (.invokevirtual 144, 3) := by decide +kernel
theorem dJx4a65c_remove_915e3_24 : decode cJx4a65c_remove_915e3 24 = .ok (.aload_n 3, 1) := by decide +kernel
theorem dJx4a65c_remove_915e3_25 : decode cJx4a65c_remove_915e3 25 = .ok (.areturn, 1) := by decide +kernel
theorem dJx4a65c_fastRemove_b59b0_0 : decode cJx4a65c_fastRemove_b59b0 0 = .ok (.aload_n 0, 1) := by decide +kernel
theorem dJx4a65c_fastRemove_b59b0_1 : decode cJx4a65c_fastRemove_b59b0 1 = .ok (.dup, 1) := by decide +kernel
theorem dJx4a65c_fastRemove_b59b0_2 : decode cJx4a65c_fastRemove_b59b0 2 = .ok (.getfield 63, 3) := by decide +kernel
theorem dJx4a65c_fastRemove_b59b0_5 : decode cJx4a65c_fastRemove_b59b0 5 = .ok (.iconst 1, 1) := by decide +kernel
theorem dJx4a65c_fastRemove_b59b0_6 : decode cJx4a65c_fastRemove_b59b0 6 = .ok (.iadd, 1) := by decide +kernel
theorem dJx4a65c_fastRemove_b59b0_7 : decode cJx4a65c_fastRemove_b59b0 7 = .ok (.putfield 63, 3) := by decide +kernel
theorem dJx4a65c_fastRemove_b59b0_10 : decode cJx4a65c_fastRemove_b59b0 10 = .ok (.aload_n 0, 1) := by decide +kernel
theorem dJx4a65c_fastRemove_b59b0_11 : decode cJx4a65c_fastRemove_b59b0 11 = .ok (.getfield 48, 3) := by decide +kernel
theorem dJx4a65c_fastRemove_b59b0_14 : decode cJx4a65c_fastRemove_b59b0 14 = .ok (.iconst 1, 1) := by decide +kernel
theorem dJx4a65c_fastRemove_b59b0_15 : decode cJx4a65c_fastRemove_b59b0 15 = .ok (.isub, 1) := by decide +kernel
theorem dJx4a65c_fastRemove_b59b0_16 : decode cJx4a65c_fastRemove_b59b0 16 = .ok (.dup, 1) := by decide +kernel
theorem dJx4a65c_fastRemove_b59b0_17 : decode cJx4a65c_fastRemove_b59b0 17 = .ok (.istore_n 3, 1) := by decide +kernel
theorem dJx4a65c_fastRemove_b59b0_18 : decode cJx4a65c_fastRemove_b59b0 18 = .ok (.iload_n 2, 1) := by decide +kernel
theorem dJx4a65c_fastRemove_b59b0_19 : decode cJx4a65c_fastRemove_b59b0 19 = .ok (.if_icmp .le 15, 3) := by decide +kernel
theorem dJx4a65c_fastRemove_b59b0_22 : decode cJx4a65c_fastRemove_b59b0 22 = .ok (.aload_n 1, 1) := by decide +kernel
theorem dJx4a65c_fastRemove_b59b0_23 : decode cJx4a65c_fastRemove_b59b0 23 = .ok (.iload_n 2, 1) := by decide +kernel
theorem dJx4a65c_fastRemove_b59b0_24 : decode cJx4a65c_fastRemove_b59b0 24 = .ok (.iconst 1, 1) := by decide +kernel
theorem dJx4a65c_fastRemove_b59b0_25 : decode cJx4a65c_fastRemove_b59b0 25 = .ok (.iadd, 1) := by decide +kernel
theorem dJx4a65c_fastRemove_b59b0_26 : decode cJx4a65c_fastRemove_b59b0 26 = .ok (.aload_n 1, 1) := by decide +kernel
theorem dJx4a65c_fastRemove_b59b0_27 : decode cJx4a65c_fastRemove_b59b0 27 = .ok (.iload_n 2, 1) := by decide +kernel
theorem dJx4a65c_fastRemove_b59b0_28 : decode cJx4a65c_fastRemove_b59b0 28 = .ok (.iload_n 3, 1) := by decide +kernel
theorem dJx4a65c_fastRemove_b59b0_29 : decode cJx4a65c_fastRemove_b59b0 29 = .ok (.iload_n 2, 1) := by decide +kernel
theorem dJx4a65c_fastRemove_b59b0_30 : decode cJx4a65c_fastRemove_b59b0 30 = .ok (.isub, 1) := by decide +kernel
theorem dJx4a65c_fastRemove_b59b0_31 : decode cJx4a65c_fastRemove_b59b0 31 = .ok (.invokestatic 112, 3) := by decide +kernel
theorem dJx4a65c_fastRemove_b59b0_34 : decode cJx4a65c_fastRemove_b59b0 34 = .ok (.aload_n 1, 1) := by decide +kernel
theorem dJx4a65c_fastRemove_b59b0_35 : decode cJx4a65c_fastRemove_b59b0 35 = .ok (.aload_n 0, 1) := by decide +kernel
theorem dJx4a65c_fastRemove_b59b0_36 : decode cJx4a65c_fastRemove_b59b0 36 = .ok (.iload_n 3, 1) := by decide +kernel
theorem dJx4a65c_fastRemove_b59b0_37 : decode cJx4a65c_fastRemove_b59b0 37 = .ok (.dup_x1, 1) := by decide +kernel
theorem dJx4a65c_fastRemove_b59b0_38 : decode cJx4a65c_fastRemove_b59b0 38 = .ok (.putfield 48, 3) := by decide +kernel
theorem dJx4a65c_fastRemove_b59b0_41 : decode cJx4a65c_fastRemove_b59b0 41 = .ok (.aconst_null, 1) := by decide +kernel
theorem dJx4a65c_fastRemove_b59b0_42 : decode cJx4a65c_fastRemove_b59b0 42 = .ok (.aastore, 1) := by decide +kernel
theorem dJx4a65c_fastRemove_b59b0_43 : decode cJx4a65c_fastRemove_b59b0 43 = .ok (.return_, 1) := by decide +kernel
set_option maxRecDepth 20000 in
theorem ggJ7_copyOf_1904c_J7_copyOf_6403c : GoodIn wsJ7_copyOf_1904c wsJ7_copyOf_6403c := goodIn_r _ [8, 9, 10, 11, 12, 13, 14, 15, 16, 17, 18] (by decide +kernel) (by decide +kernel)
set_option maxRecDepth 20000 in
theorem gJ7_copyOf_1904c_J7_copyOf_6403c : GoodIn wsJ7_copyOf_1904c (va_wsS RJ7 300 yJ7_copyOf_6403c wsJ7_copyOf_6403c) := goodIn_app (goodIn_of _ (by decide +kernel)) ggJ7_copyOf_1904c_J7_copyOf_6403c
theorem dJ7_copyOf_1904c_0 : decode cJ7_copyOf_1904c 0 = .ok (.aload_n 0, 1) := by decide +kernel
theorem dJ7_copyOf_1904c_1 : decode cJ7_copyOf_1904c 1 = .ok (.iload_n 1, 1) := by decide +kernel
theorem dJ7_copyOf_1904c_2 : decode cJ7_copyOf_1904c 2 = .ok (.aload_n 0, 1) := by decide +kernel
theorem dJ7_copyOf_1904c_3 : decode cJ7_copyOf_1904c 3 = .ok (.invokevirtual 86, 3) := by decide +kernel
theorem dJ7_copyOf_1904c_6 : decode cJ7_copyOf_1904c 6 = .ok (.invokestatic 300, 3) := by decide +kernel
theorem dJ7_copyOf_1904c_9 : decode cJ7_copyOf_1904c 9 = .ok (.areturn, 1) := by decide +kernel
theorem dJ7_copyOf_6403c_0 : decode cJ7_copyOf_6403c 0 = .ok (.aload_n 2, 1) := by decide +kernel
theorem dJ7_copyOf_6403c_1 : decode cJ7_copyOf_6403c 1 = .ok (.ldc 110, 2) := by decide +kernel
theorem dJ7_copyOf_6403c_3 : decode cJ7_copyOf_6403c 3 = .ok (.if_acmp .ne 10, 3) := by decide +kernel
theorem dJ7_copyOf_6403c_6 : decode cJ7_copyOf_6403c 6 = .ok (.iload_n 1, 1) := by decide +kernel
theorem dJ7_copyOf_6403c_7 : decode cJ7_copyOf_6403c 7 = .ok (.anewarray 2, 3) := by decide +kernel
theorem dJ7_copyOf_6403c_10 : decode cJ7_copyOf_6403c 10 = .ok (.goto 14, 3) := by decide +kernel
theorem dJ7_copyOf_6403c_13 : decode cJ7_copyOf_6403c 13 = .ok (.aload_n 2, 1) := by decide +kernel
theorem dJ7_copyOf_6403c_14 : decode cJ7_copyOf_6403c 14 = .ok (.invokevirtual 90, 3) := by decide +kernel
theorem dJ7_copyOf_6403c_17 : decode cJ7_copyOf_6403c 17 = .ok (.iload_n 1, 1) := by decide +kernel
theorem dJ7_copyOf_6403c_18 : decode cJ7_copyOf_6403c 18 = .ok (.invokestatic 95, 3) := by decide +kernel
theorem dJ7_copyOf_6403c_21 : decode cJ7_copyOf_6403c 21 = .ok (.checkcast 110, 3) := by decide +kernel
theorem dJ7_copyOf_6403c_24 : decode cJ7_copyOf_6403c 24 = .ok (.astore_n 3, 1) := by decide +kernel
theorem dJ7_copyOf_6403c_25 : decode cJ7_copyOf_6403c 25 = .ok (.aload_n 0, 1) := by decide +kernel
theorem dJ7_copyOf_6403c_26 : decode cJ7_copyOf_6403c 26 = .ok (.iconst 0, 1) := by decide +kernel
theorem dJ7_copyOf_6403c_27 : decode cJ7_copyOf_6403c 27 = .ok (.aload_n 3, 1) := by decide +kernel
theorem dJ7_copyOf_6403c_28 : decode cJ7_copyOf_6403c 28 = .ok (.iconst 0, 1) := by decide +kernel
theorem dJ7_copyOf_6403c_29 : decode cJ7_copyOf_6403c 29 = .ok (.aload_n 0, 1) := by decide +kernel
theorem dJ7_copyOf_6403c_30 : decode cJ7_copyOf_6403c 30 = .ok (.arraylength, 1) := by decide +kernel
theorem dJ7_copyOf_6403c_31 : decode cJ7_copyOf_6403c 31 = .ok (.iload_n 1, 1) := by decide +kernel
theorem dJ7_copyOf_6403c_32 : decode cJ7_copyOf_6403c 32 = .ok (.invokestatic 304, 3) := by decide +kernel
theorem dJ7_copyOf_6403c_35 : decode cJ7_copyOf_6403c 35 = .ok (.invokestatic 150, 3) := by decide +kernel
theorem dJ7_copyOf_6403c_38 : decode cJ7_copyOf_6403c 38 = .ok (.aload_n 3, 1) := by decide +kernel
theorem dJ7_copyOf_6403c_39 : decode cJ7_copyOf_6403c 39 = .ok (.areturn, 1) := by decide +kernel
set_option maxRecDepth 20000 in
theorem ggJ15_checkIndex_7cf53_J3_checkIndex_8e157 : GoodIn wsJ15_checkIndex_7cf53 wsJ3_checkIndex_8e157 := goodIn_r _ [4] (by decide +kernel) (by decide +kernel)
set_option maxRecDepth 20000 in
theorem gJ15_checkIndex_7cf53_J3_checkIndex_8e157 : GoodIn wsJ15_checkIndex_7cf53 (va_wsS RJ15 105 yJ3_checkIndex_8e157 wsJ3_checkIndex_8e157) := goodIn_app (goodIn_of _ (by decide +kernel)) ggJ15_checkIndex_7cf53_J3_checkIndex_8e157
theorem dJ15_checkIndex_7cf53_0 : decode cJ15_checkIndex_7cf53 0 = .ok (.iload_n 0, 1) := by decide +kernel
theorem dJ15_checkIndex_7cf53_1 : decode cJ15_checkIndex_7cf53 1 = .ok (.iload_n 1, 1) := by decide +kernel
theorem dJ15_checkIndex_7cf53_2 : decode cJ15_checkIndex_7cf53 2 = .ok (.aconst_null, 1) := by decide +kernel
theorem dJ15_checkIndex_7cf53_3 : decode cJ15_checkIndex_7cf53 3 = .ok (.invokestatic 105, 3) := by decide +kernel
theorem dJ15_checkIndex_7cf53_6 : decode cJ15_checkIndex_7cf53 6 = .ok (.ireturn, 1) := by decide +kernel
set_option maxRecDepth 20000 in
theorem ggJ8_newLength_cabcc_J8_hugeLength_7cf53 : GoodIn wsJ8_newLength_cabcc wsJ8_hugeLength_7cf53 := goodIn_r _ [9, 5] (by decide +kernel) (by decide +kernel)
set_option maxRecDepth 20000 in
theorem gJ8_newLength_cabcc_J8_hugeLength_7cf53 : GoodIn wsJ8_newLength_cabcc (va_wsS RJ8 201 yJ8_hugeLength_7cf53 wsJ8_hugeLength_7cf53) := goodIn_app (goodIn_of _ (by decide +kernel)) ggJ8_newLength_cabcc_J8_hugeLength_7cf53
theorem dJ8_newLength_cabcc_0 : decode cJ8_newLength_cabcc 0 = .ok (.iload_n 0, 1) := by decide +kernel
theorem dJ8_newLength_cabcc_1 : decode cJ8_newLength_cabcc 1 = .ok (.iload_n 1, 1) := by decide +kernel
theorem dJ8_newLength_cabcc_2 : decode cJ8_newLength_cabcc 2 = .ok (.iload_n 2, 1) := by decide +kernel
theorem dJ8_newLength_cabcc_3 : decode cJ8_newLength_cabcc 3 = .ok (.invokestatic 194, 3) := by decide +kernel
theorem dJ8_newLength_cabcc_6 : decode cJ8_newLength_cabcc 6 = .ok (.iadd, 1) := by decide +kernel
theorem dJ8_newLength_cabcc_7 : decode cJ8_newLength_cabcc 7 = .ok (.istore_n 3, 1) := by decide +kernel
theorem dJ8_newLength_cabcc_8 : decode cJ8_newLength_cabcc 8 = .ok (.iconst 0, 1) := by decide +kernel
theorem dJ8_newLength_cabcc_9 : decode cJ8_newLength_cabcc 9 = .ok (.iload_n 3, 1) := by decide +kernel
theorem dJ8_newLength_cabcc_10 : decode cJ8_newLength_cabcc 10 = .ok (.if_icmp .ge 11, 3) := by decide +kernel
theorem dJ8_newLength_cabcc_13 : decode cJ8_newLength_cabcc 13 = .ok (.iload_n 3, 1) := by decide +kernel
theorem dJ8_newLength_cabcc_14 : decode cJ8_newLength_cabcc 14 = .ok (.ldc 200, 2) := by decide +kernel
theorem dJ8_newLength_cabcc_16 : decode cJ8_newLength_cabcc 16 = .ok (.if_icmp .gt 5, 3) := by decide +kernel
theorem dJ8_newLength_cabcc_19 : decode cJ8_newLength_cabcc 19 = .ok (.iload_n 3, 1) := by decide +kernel
theorem dJ8_newLength_cabcc_20 : decode cJ8_newLength_cabcc 20 = .ok (.ireturn, 1) := by decide +kernel
theorem dJ8_newLength_cabcc_21 : decode cJ8_newLength_cabcc 21 = .ok (.iload_n 0, 1) := by decide +kernel
theorem dJ8_newLength_cabcc_22 : decode cJ8_newLength_cabcc 22 = .ok (.iload_n 1, 1) := by decide +kernel
theorem dJ8_newLength_cabcc_23 : decode cJ8_newLength_cabcc 23 = .ok (.invokestatic 201, 3) := by decide +kernel
theorem dJ8_newLength_cabcc_26 : decode cJ8_newLength_cabcc 26 = .ok (.ireturn, 1) := by decide +kernel
theorem dJ8_hugeLength_7cf53_0 : decode cJ8_hugeLength_7cf53 0 = .ok (.iload_n 0, 1) := by decide +kernel
theorem dJ8_hugeLength_7cf53_1 : decode cJ8_hugeLength_7cf53 1 = .ok (.iload_n 1, 1) := by decide +kernel
theorem dJ8_hugeLength_7cf53_2 : decode cJ8_hugeLength_7cf53 2 = .ok (.iadd, 1) := by decide +kernel
theorem dJ8_hugeLength_7cf53_3 : decode cJ8_hugeLength_7cf53 3 = .ok (.istore_n 2, 1) := by decide +kernel
theorem dJ8_hugeLength_7cf53_4 : decode cJ8_hugeLength_7cf53 4 = .ok (.iload_n 2, 1) := by decide +kernel
theorem dJ8_hugeLength_7cf53_5 : decode cJ8_hugeLength_7cf53 5 = .ok (.ifCond .ge 44, 3) := by decide +kernel
theorem dJ8_hugeLength_7cf53_8 : decode cJ8_hugeLength_7cf53 8 = .ok (.new 204, 3) := by decide +kernel
theorem dJ8_hugeLength_7cf53_11 : decode cJ8_hugeLength_7cf53 11 = .ok (.dup, 1) := by decide +kernel
theorem dJ8_hugeLength_7cf53_12 : decode cJ8_hugeLength_7cf53 12 = .ok (.new 89, 3) := by decide +kernel
theorem dJ8_hugeLength_7cf53_15 : decode cJ8_hugeLength_7cf53 15 = .ok (.dup, 1) := by decide +kernel
theorem dJ8_hugeLength_7cf53_16 : decode cJ8_hugeLength_7cf53 16 = .ok (.invokespecial 91, 3) := by decide +kernel
theorem dJ8_hugeLength_7cf53_19 : decode cJ8_hugeLength_7cf53 19 = .ok (.ldc 206, 2) := by decide +kernel
theorem dJ8_hugeLength_7cf53_21 : decode cJ8_hugeLength_7cf53 21 = .ok (.invokevirtual 94, 3) := by decide +kernel
theorem dJ8_hugeLength_7cf53_24 : decode cJ8_hugeLength_7cf53 24 = .ok (.iload_n 0, 1) := by decide +kernel
theorem dJ8_hugeLength_7cf53_25 : decode cJ8_hugeLength_7cf53 25 = .ok (.invokevirtual 98, 3) := by decide +kernel
theorem dJ8_hugeLength_7cf53_28 : decode cJ8_hugeLength_7cf53 28 = .ok (.ldc 208, 2) := by decide +kernel
theorem dJ8_hugeLength_7cf53_30 : decode cJ8_hugeLength_7cf53 30 = .ok (.invokevirtual 94, 3) := by decide +kernel
theorem dJ8_hugeLength_7cf53_33 : decode cJ8_hugeLength_7cf53 33 = .ok (.iload_n 1, 1) := by decide +kernel
theorem dJ8_hugeLength_7cf53_34 : decode cJ8_hugeLength_7cf53 34 = .ok (.invokevirtual 98, 3) := by decide +kernel
theorem dJ8_hugeLength_7cf53_37 : decode cJ8_hugeLength_7cf53 37 = .ok (.ldc 210, 2) := by decide +kernel
theorem dJ8_hugeLength_7cf53_39 : decode cJ8_hugeLength_7cf53 39 = .ok (.invokevirtual 94, 3) := by decide +kernel
theorem dJ8_hugeLength_7cf53_42 : decode cJ8_hugeLength_7cf53 42 = .ok (.invokevirtual 101, 3) := by decide +kernel
theorem dJ8_hugeLength_7cf53_45 : decode cJ8_hugeLength_7cf53 45 = .ok (.invokespecial 212, 3) := by decide +kernel
theorem dJ8_hugeLength_7cf53_48 : decode cJ8_hugeLength_7cf53 48 = .ok (.athrow, 1) := by decide +kernel
theorem dJ8_hugeLength_7cf53_49 : decode cJ8_hugeLength_7cf53 49 = .ok (.iload_n 2, 1) := by decide +kernel
theorem dJ8_hugeLength_7cf53_50 : decode cJ8_hugeLength_7cf53 50 = .ok (.ldc 200, 2) := by decide +kernel
theorem dJ8_hugeLength_7cf53_52 : decode cJ8_hugeLength_7cf53 52 = .ok (.if_icmp .gt 6, 3) := by decide +kernel
theorem dJ8_hugeLength_7cf53_55 : decode cJ8_hugeLength_7cf53 55 = .ok (.ldc 200, 2) := by decide +kernel
theorem dJ8_hugeLength_7cf53_57 : decode cJ8_hugeLength_7cf53 57 = .ok (.ireturn, 1) := by decide +kernel
theorem dJ8_hugeLength_7cf53_58 : decode cJ8_hugeLength_7cf53 58 = .ok (.iload_n 2, 1) := by decide +kernel
theorem dJ8_hugeLength_7cf53_59 : decode cJ8_hugeLength_7cf53 59 = .ok (.ireturn, 1) := by decide +kernel
theorem dJ3_checkIndex_8e157_0 : decode cJ3_checkIndex_8e157 0 = .ok (.iload_n 0, 1) := by decide +kernel
theorem dJ3_checkIndex_8e157_1 : decode cJ3_checkIndex_8e157 1 = .ok (.ifCond .lt 8, 3) := by decide +kernel
theorem dJ3_checkIndex_8e157_4 : decode cJ3_checkIndex_8e157 4 = .ok (.iload_n 0, 1) := by decide +kernel
theorem dJ3_checkIndex_8e157_5 : decode cJ3_checkIndex_8e157 5 = .ok (.iload_n 1, 1) := by decide +kernel
theorem dJ3_checkIndex_8e157_6 : decode cJ3_checkIndex_8e157 6 = .ok (.if_icmp .lt 10, 3) := by decide +kernel
theorem dJ3_checkIndex_8e157_9 : decode cJ3_checkIndex_8e157 9 = .ok (.aload_n 2, 1) := by decide +kernel
theorem dJ3_checkIndex_8e157_10 : decode cJ3_checkIndex_8e157 10 = .ok (.iload_n 0, 1) := by decide +kernel
theorem dJ3_checkIndex_8e157_11 : decode cJ3_checkIndex_8e157 11 = .ok (.iload_n 1, 1) := by decide +kernel
theorem dJ3_checkIndex_8e157_12 : decode cJ3_checkIndex_8e157 12 = .ok (.invokestatic 95, 3) := by decide +kernel
theorem dJ3_checkIndex_8e157_15 : decode cJ3_checkIndex_8e157 15 = .ok (.athrow, 1) := by decide +kernel
theorem dJ3_checkIndex_8e157_16 : decode cJ3_checkIndex_8e157 16 = .ok (.iload_n 0, 1) := by decide +kernel
theorem dJ3_checkIndex_8e157_17 : decode cJ3_checkIndex_8e157 17 = .ok (.ireturn, 1) := by decide +kernel
end
section
theorem dX0_init_0 : decode cX0_init 0 = .ok (.aload_n 0, 1) := by decide +kernel
theorem dX0_init_1 : decode cX0_init 1 = .ok (.invokespecial 1, 3) := by decide +kernel
theorem dX0_init_4 : decode cX0_init 4 = .ok (.aload_n 0, 1) := by decide +kernel
theorem dX0_init_5 : decode cX0_init 5 = .ok (.aload_n 1, 1) := by decide +kernel
theorem dX0_init_6 : decode cX0_init 6 = .ok (.putfield 7, 3) := by decide +kernel
theorem dX0_init_9 : decode cX0_init 9 = .ok (.aload_n 0, 1) := by decide +kernel
theorem dX0_init_10 : decode cX0_init 10 = .ok (.aload_n 2, 1) := by decide +kernel
theorem dX0_init_11 : decode cX0_init 11 = .ok (.putfield 13, 3) := by decide +kernel
theorem dX0_init_14 : decode cX0_init 14 = .ok (.aload_n 0, 1) := by decide +kernel
theorem dX0_init_15 : decode cX0_init 15 = .ok (.iload_n 3, 1) := by decide +kernel
theorem dX0_init_16 : decode cX0_init 16 = .ok (.putfield 17, 3) := by decide +kernel
theorem dX0_init_19 : decode cX0_init 19 = .ok (.aload_n 0, 1) := by decide +kernel
theorem dX0_init_20 : decode cX0_init 20 = .ok (.iload 4, 2) := by decide +kernel
theorem dX0_init_22 : decode cX0_init 22 = .ok (.putfield 21, 3) := by decide +kernel
theorem dX0_init_25 : decode cX0_init 25 = .ok (.aload_n 0, 1) := by decide +kernel
theorem dX0_init_26 : decode cX0_init 26 = .ok (.iconst 1, 1) := by decide +kernel
theorem dX0_init_27 : decode cX0_init 27 = .ok (.iload_n 3, 1) := by decide +kernel
theorem dX0_init_28 : decode cX0_init 28 = .ok (.ishl, 1) := by decide +kernel
theorem dX0_init_29 : decode cX0_init 29 = .ok (.putfield 24, 3) := by decide +kernel
theorem dX0_init_32 : decode cX0_init 32 = .ok (.return_, 1) := by decide +kernel
theorem dX0_isOpen_0 : decode cX0_isOpen 0 = .ok (.aload_n 0, 1) := by decide +kernel
theorem dX0_isOpen_1 : decode cX0_isOpen 1 = .ok (.getfield 27, 3) := by decide +kernel
theorem dX0_isOpen_4 : decode cX0_isOpen 4 = .ok (.ireturn, 1) := by decide +kernel
theorem dX0_isSeenAt_0 : decode cX0_isSeenAt 0 = .ok (.aload_n 0, 1) := by decide +kernel
theorem dX0_isSeenAt_1 : decode cX0_isSeenAt 1 = .ok (.getfield 24, 3) := by decide +kernel
theorem dX0_isSeenAt_4 : decode cX0_isSeenAt 4 = .ok (.iload_n 1, 1) := by decide +kernel
theorem dX0_isSeenAt_5 : decode cX0_isSeenAt 5 = .ok (.ishr, 1) := by decide +kernel
theorem dX0_isSeenAt_6 : decode cX0_isSeenAt 6 = .ok (.iconst 1, 1) := by decide +kernel
theorem dX0_isSeenAt_7 : decode cX0_isSeenAt 7 = .ok (.iand, 1) := by decide +kernel
theorem dX0_isSeenAt_8 : decode cX0_isSeenAt 8 = .ok (.ifCond .eq 7, 3) := by decide +kernel
theorem dX0_isSeenAt_11 : decode cX0_isSeenAt 11 = .ok (.iconst 1, 1) := by decide +kernel
theorem dX0_isSeenAt_12 : decode cX0_isSeenAt 12 = .ok (.goto 4, 3) := by decide +kernel
theorem dX0_isSeenAt_15 : decode cX0_isSeenAt 15 = .ok (.iconst 0, 1) := by decide +kernel
theorem dX0_isSeenAt_16 : decode cX0_isSeenAt 16 = .ok (.ireturn, 1) := by decide +kernel
theorem dX0_showTo_0 : decode cX0_showTo 0 = .ok (.iload_n 1, 1) := by decide +kernel
theorem dX0_showTo_1 : decode cX0_showTo 1 = .ok (.aload_n 0, 1) := by decide +kernel
theorem dX0_showTo_2 : decode cX0_showTo 2 = .ok (.getfield 17, 3) := by decide +kernel
theorem dX0_showTo_5 : decode cX0_showTo 5 = .ok (.ishr, 1) := by decide +kernel
theorem dX0_showTo_6 : decode cX0_showTo 6 = .ok (.iconst 1, 1) := by decide +kernel
theorem dX0_showTo_7 : decode cX0_showTo 7 = .ok (.iand, 1) := by decide +kernel
theorem dX0_showTo_8 : decode cX0_showTo 8 = .ok (.ifCond .eq 8, 3) := by decide +kernel
theorem dX0_showTo_11 : decode cX0_showTo 11 = .ok (.aload_n 0, 1) := by decide +kernel
theorem dX0_showTo_12 : decode cX0_showTo 12 = .ok (.iconst 1, 1) := by decide +kernel
theorem dX0_showTo_13 : decode cX0_showTo 13 = .ok (.putfield 27, 3) := by decide +kernel
theorem dX0_showTo_16 : decode cX0_showTo 16 = .ok (.aload_n 0, 1) := by decide +kernel
theorem dX0_showTo_17 : decode cX0_showTo 17 = .ok (.getfield 27, 3) := by decide +kernel
theorem dX0_showTo_20 : decode cX0_showTo 20 = .ok (.ifCond .eq 13, 3) := by decide +kernel
theorem dX0_showTo_23 : decode cX0_showTo 23 = .ok (.aload_n 0, 1) := by decide +kernel
theorem dX0_showTo_24 : decode cX0_showTo 24 = .ok (.dup, 1) := by decide +kernel
theorem dX0_showTo_25 : decode cX0_showTo 25 = .ok (.getfield 24, 3) := by decide +kernel
theorem dX0_showTo_28 : decode cX0_showTo 28 = .ok (.iload_n 1, 1) := by decide +kernel
theorem dX0_showTo_29 : decode cX0_showTo 29 = .ok (.ior, 1) := by decide +kernel
theorem dX0_showTo_30 : decode cX0_showTo 30 = .ok (.putfield 24, 3) := by decide +kernel
theorem dX0_showTo_33 : decode cX0_showTo 33 = .ok (.return_, 1) := by decide +kernel
set_option maxRecDepth 20000 in
theorem ggX1_init_X0_init : GoodIn wsX1_init wsX0_init := goodIn_r _ [7, 8, 9, 10, 11, 12, 13, 14, 15, 16, 17, 18, 19, 20, 21, 22, 23, 24, 25, 26, 27, 28, 29, 30, 31, 32] (by decide +kernel) (by decide +kernel)
set_option maxRecDepth 20000 in
theorem gX1_init_X0_init : GoodIn wsX1_init (wsX0_init) := ggX1_init_X0_init
theorem dX1_init_0 : decode cX1_init 0 = .ok (.aload_n 0, 1) := by decide +kernel
theorem dX1_init_1 : decode cX1_init 1 = .ok (.aload_n 2, 1) := by decide +kernel
theorem dX1_init_2 : decode cX1_init 2 = .ok (.aload_n 3, 1) := by decide +kernel
theorem dX1_init_3 : decode cX1_init 3 = .ok (.iload 4, 2) := by decide +kernel
theorem dX1_init_5 : decode cX1_init 5 = .ok (.iload 5, 2) := by decide +kernel
theorem dX1_init_7 : decode cX1_init 7 = .ok (.invokespecial 3, 3) := by decide +kernel
theorem dX1_init_10 : decode cX1_init 10 = .ok (.aload_n 0, 1) := by decide +kernel
theorem dX1_init_11 : decode cX1_init 11 = .ok (.iload_n 1, 1) := by decide +kernel
theorem dX1_init_12 : decode cX1_init 12 = .ok (.putfield 9, 3) := by decide +kernel
theorem dX1_init_15 : decode cX1_init 15 = .ok (.aload_n 0, 1) := by decide +kernel
theorem dX1_init_16 : decode cX1_init 16 = .ok (.iload 6, 2) := by decide +kernel
theorem dX1_init_18 : decode cX1_init 18 = .ok (.putfield 15, 3) := by decide +kernel
theorem dX1_init_21 : decode cX1_init 21 = .ok (.aload_n 0, 1) := by decide +kernel
theorem dX1_init_22 : decode cX1_init 22 = .ok (.iconst 0, 1) := by decide +kernel
theorem dX1_init_23 : decode cX1_init 23 = .ok (.putfield 18, 3) := by decide +kernel
theorem dX1_init_26 : decode cX1_init 26 = .ok (.return_, 1) := by decide +kernel
theorem dX1_isKept_0 : decode cX1_isKept 0 = .ok (.aload_n 0, 1) := by decide +kernel
theorem dX1_isKept_1 : decode cX1_isKept 1 = .ok (.getfield 18, 3) := by decide +kernel
theorem dX1_isKept_4 : decode cX1_isKept 4 = .ok (.ifCond .ne 7, 3) := by decide +kernel
theorem dX1_isKept_7 : decode cX1_isKept 7 = .ok (.iconst 1, 1) := by decide +kernel
theorem dX1_isKept_8 : decode cX1_isKept 8 = .ok (.goto 4, 3) := by decide +kernel
theorem dX1_isKept_11 : decode cX1_isKept 11 = .ok (.iconst 0, 1) := by decide +kernel
theorem dX1_isKept_12 : decode cX1_isKept 12 = .ok (.ireturn, 1) := by decide +kernel
theorem dX1_isBehind_0 : decode cX1_isBehind 0 = .ok (.aload_n 0, 1) := by decide +kernel
theorem dX1_isBehind_1 : decode cX1_isBehind 1 = .ok (.getfield 21, 3) := by decide +kernel
theorem dX1_isBehind_4 : decode cX1_isBehind 4 = .ok (.aload_n 1, 1) := by decide +kernel
theorem dX1_isBehind_5 : decode cX1_isBehind 5 = .ok (.getfield 21, 3) := by decide +kernel
theorem dX1_isBehind_8 : decode cX1_isBehind 8 = .ok (.if_icmp .eq 20, 3) := by decide +kernel
theorem dX1_isBehind_11 : decode cX1_isBehind 11 = .ok (.aload_n 0, 1) := by decide +kernel
theorem dX1_isBehind_12 : decode cX1_isBehind 12 = .ok (.getfield 21, 3) := by decide +kernel
theorem dX1_isBehind_15 : decode cX1_isBehind 15 = .ok (.aload_n 1, 1) := by decide +kernel
theorem dX1_isBehind_16 : decode cX1_isBehind 16 = .ok (.getfield 21, 3) := by decide +kernel
theorem dX1_isBehind_19 : decode cX1_isBehind 19 = .ok (.if_icmp .le 7, 3) := by decide +kernel
theorem dX1_isBehind_22 : decode cX1_isBehind 22 = .ok (.iconst 1, 1) := by decide +kernel
theorem dX1_isBehind_23 : decode cX1_isBehind 23 = .ok (.goto 4, 3) := by decide +kernel
theorem dX1_isBehind_26 : decode cX1_isBehind 26 = .ok (.iconst 0, 1) := by decide +kernel
theorem dX1_isBehind_27 : decode cX1_isBehind 27 = .ok (.ireturn, 1) := by decide +kernel
theorem dX1_isBehind_28 : decode cX1_isBehind 28 = .ok (.aload_n 0, 1) := by decide +kernel
theorem dX1_isBehind_29 : decode cX1_isBehind 29 = .ok (.getfield 24, 3) := by decide +kernel
theorem dX1_isBehind_32 : decode cX1_isBehind 32 = .ok (.aload_n 1, 1) := by decide +kernel
theorem dX1_isBehind_33 : decode cX1_isBehind 33 = .ok (.getfield 24, 3) := by decide +kernel
theorem dX1_isBehind_36 : decode cX1_isBehind 36 = .ok (.if_icmp .eq 20, 3) := by decide +kernel
theorem dX1_isBehind_39 : decode cX1_isBehind 39 = .ok (.aload_n 0, 1) := by decide +kernel
theorem dX1_isBehind_40 : decode cX1_isBehind 40 = .ok (.getfield 24, 3) := by decide +kernel
theorem dX1_isBehind_43 : decode cX1_isBehind 43 = .ok (.aload_n 1, 1) := by decide +kernel
theorem dX1_isBehind_44 : decode cX1_isBehind 44 = .ok (.getfield 24, 3) := by decide +kernel
theorem dX1_isBehind_47 : decode cX1_isBehind 47 = .ok (.if_icmp .le 7, 3) := by decide +kernel
theorem dX1_isBehind_50 : decode cX1_isBehind 50 = .ok (.iconst 1, 1) := by decide +kernel
theorem dX1_isBehind_51 : decode cX1_isBehind 51 = .ok (.goto 4, 3) := by decide +kernel
theorem dX1_isBehind_54 : decode cX1_isBehind 54 = .ok (.iconst 0, 1) := by decide +kernel
theorem dX1_isBehind_55 : decode cX1_isBehind 55 = .ok (.ireturn, 1) := by decide +kernel
theorem dX1_isBehind_56 : decode cX1_isBehind 56 = .ok (.aload_n 0, 1) := by decide +kernel
theorem dX1_isBehind_57 : decode cX1_isBehind 57 = .ok (.getfield 9, 3) := by decide +kernel
theorem dX1_isBehind_60 : decode cX1_isBehind 60 = .ok (.aload_n 1, 1) := by decide +kernel
theorem dX1_isBehind_61 : decode cX1_isBehind 61 = .ok (.getfield 9, 3) := by decide +kernel
theorem dX1_isBehind_64 : decode cX1_isBehind 64 = .ok (.if_icmp .le 7, 3) := by decide +kernel
theorem dX1_isBehind_67 : decode cX1_isBehind 67 = .ok (.iconst 1, 1) := by decide +kernel
theorem dX1_isBehind_68 : decode cX1_isBehind 68 = .ok (.goto 4, 3) := by decide +kernel
theorem dX1_isBehind_71 : decode cX1_isBehind 71 = .ok (.iconst 0, 1) := by decide +kernel
theorem dX1_isBehind_72 : decode cX1_isBehind 72 = .ok (.ireturn, 1) := by decide +kernel
theorem dX2_init_0 : decode cX2_init 0 = .ok (.aload_n 0, 1) := by decide +kernel
theorem dX2_init_1 : decode cX2_init 1 = .ok (.invokespecial 1, 3) := by decide +kernel
theorem dX2_init_4 : decode cX2_init 4 = .ok (.aload_n 0, 1) := by decide +kernel
theorem dX2_init_5 : decode cX2_init 5 = .ok (.iload_n 1, 1) := by decide +kernel
theorem dX2_init_6 : decode cX2_init 6 = .ok (.putfield 7, 3) := by decide +kernel
theorem dX2_init_9 : decode cX2_init 9 = .ok (.aload_n 0, 1) := by decide +kernel
theorem dX2_init_10 : decode cX2_init 10 = .ok (.iload_n 2, 1) := by decide +kernel
theorem dX2_init_11 : decode cX2_init 11 = .ok (.putfield 13, 3) := by decide +kernel
theorem dX2_init_14 : decode cX2_init 14 = .ok (.return_, 1) := by decide +kernel
set_option maxRecDepth 20000 in
theorem ggX3_init_X0_init : GoodIn wsX3_init wsX0_init := goodIn_r _ [5, 6, 7, 8, 9, 10, 11, 12, 13, 22, 23, 24, 25, 26, 27, 28, 29, 30, 14, 15, 16, 17, 18, 19, 20, 21] (by decide +kernel) (by decide +kernel)
set_option maxRecDepth 20000 in
theorem gX3_init_X0_init : GoodIn wsX3_init (wsX0_init) := ggX3_init_X0_init
theorem dX3_init_0 : decode cX3_init 0 = .ok (.aload_n 0, 1) := by decide +kernel
theorem dX3_init_1 : decode cX3_init 1 = .ok (.aload_n 1, 1) := by decide +kernel
theorem dX3_init_2 : decode cX3_init 2 = .ok (.aload_n 2, 1) := by decide +kernel
theorem dX3_init_3 : decode cX3_init 3 = .ok (.iload_n 3, 1) := by decide +kernel
theorem dX3_init_4 : decode cX3_init 4 = .ok (.iload 4, 2) := by decide +kernel
theorem dX3_init_6 : decode cX3_init 6 = .ok (.invokespecial 1, 3) := by decide +kernel
theorem dX3_init_9 : decode cX3_init 9 = .ok (.aload_n 0, 1) := by decide +kernel
theorem dX3_init_10 : decode cX3_init 10 = .ok (.iload 5, 2) := by decide +kernel
theorem dX3_init_12 : decode cX3_init 12 = .ok (.putfield 7, 3) := by decide +kernel
theorem dX3_init_15 : decode cX3_init 15 = .ok (.return_, 1) := by decide +kernel
theorem dX3_standsAt_0 : decode cX3_standsAt 0 = .ok (.aload_n 0, 1) := by decide +kernel
theorem dX3_standsAt_1 : decode cX3_standsAt 1 = .ok (.getfield 13, 3) := by decide +kernel
theorem dX3_standsAt_4 : decode cX3_standsAt 4 = .ok (.ifCond .ne 30, 3) := by decide +kernel
theorem dX3_standsAt_7 : decode cX3_standsAt 7 = .ok (.aload_n 0, 1) := by decide +kernel
theorem dX3_standsAt_8 : decode cX3_standsAt 8 = .ok (.getfield 17, 3) := by decide +kernel
theorem dX3_standsAt_11 : decode cX3_standsAt 11 = .ok (.getfield 21, 3) := by decide +kernel
theorem dX3_standsAt_14 : decode cX3_standsAt 14 = .ok (.ifCond .ne 20, 3) := by decide +kernel
theorem dX3_standsAt_17 : decode cX3_standsAt 17 = .ok (.iload_n 1, 1) := by decide +kernel
theorem dX3_standsAt_18 : decode cX3_standsAt 18 = .ok (.aload_n 0, 1) := by decide +kernel
theorem dX3_standsAt_19 : decode cX3_standsAt 19 = .ok (.getfield 26, 3) := by decide +kernel
theorem dX3_standsAt_22 : decode cX3_standsAt 22 = .ok (.isub, 1) := by decide +kernel
theorem dX3_standsAt_23 : decode cX3_standsAt 23 = .ok (.aload_n 0, 1) := by decide +kernel
theorem dX3_standsAt_24 : decode cX3_standsAt 24 = .ok (.getfield 7, 3) := by decide +kernel
theorem dX3_standsAt_27 : decode cX3_standsAt 27 = .ok (.if_icmp .ge 7, 3) := by decide +kernel
theorem dX3_standsAt_30 : decode cX3_standsAt 30 = .ok (.iconst 1, 1) := by decide +kernel
theorem dX3_standsAt_31 : decode cX3_standsAt 31 = .ok (.goto 4, 3) := by decide +kernel
theorem dX3_standsAt_34 : decode cX3_standsAt 34 = .ok (.iconst 0, 1) := by decide +kernel
theorem dX3_standsAt_35 : decode cX3_standsAt 35 = .ok (.ireturn, 1) := by decide +kernel
theorem dX4_init_0 : decode cX4_init 0 = .ok (.aload_n 0, 1) := by decide +kernel
theorem dX4_init_1 : decode cX4_init 1 = .ok (.invokespecial 1, 3) := by decide +kernel
theorem dX4_init_4 : decode cX4_init 4 = .ok (.aload_n 0, 1) := by decide +kernel
theorem dX4_init_5 : decode cX4_init 5 = .ok (.aload_n 1, 1) := by decide +kernel
theorem dX4_init_6 : decode cX4_init 6 = .ok (.putfield 7, 3) := by decide +kernel
theorem dX4_init_9 : decode cX4_init 9 = .ok (.aload_n 0, 1) := by decide +kernel
theorem dX4_init_10 : decode cX4_init 10 = .ok (.iload_n 2, 1) := by decide +kernel
theorem dX4_init_11 : decode cX4_init 11 = .ok (.putfield 13, 3) := by decide +kernel
theorem dX4_init_14 : decode cX4_init 14 = .ok (.return_, 1) := by decide +kernel
set_option maxRecDepth 20000 in
theorem ggX5_init_Jx4a65c_init_da8c8 : GoodIn wsX5_init wsJx4a65c_init_da8c8 := goodIn_r _ [14, 15, 16, 17, 18, 19, 20, 21, 22, 23, 24, 25, 26, 2, 3, 34, 35, 36] (by decide +kernel) (by decide +kernel)
set_option maxRecDepth 20000 in
theorem gX5_init_Jx4a65c_init_da8c8 : GoodIn wsX5_init (wsJx4a65c_init_da8c8) := ggX5_init_Jx4a65c_init_da8c8
theorem dX5_init_0 : decode cX5_init 0 = .ok (.aload_n 0, 1) := by decide +kernel
theorem dX5_init_1 : decode cX5_init 1 = .ok (.invokespecial 1, 3) := by decide +kernel
theorem dX5_init_4 : decode cX5_init 4 = .ok (.aload_n 0, 1) := by decide +kernel
theorem dX5_init_5 : decode cX5_init 5 = .ok (.iload_n 1, 1) := by decide +kernel
theorem dX5_init_6 : decode cX5_init 6 = .ok (.putfield 7, 3) := by decide +kernel
theorem dX5_init_9 : decode cX5_init 9 = .ok (.aload_n 0, 1) := by decide +kernel
theorem dX5_init_10 : decode cX5_init 10 = .ok (.iload_n 2, 1) := by decide +kernel
theorem dX5_init_11 : decode cX5_init 11 = .ok (.putfield 13, 3) := by decide +kernel
theorem dX5_init_14 : decode cX5_init 14 = .ok (.aload_n 0, 1) := by decide +kernel
theorem dX5_init_15 : decode cX5_init 15 = .ok (.iload_n 3, 1) := by decide +kernel
theorem dX5_init_16 : decode cX5_init 16 = .ok (.putfield 16, 3) := by decide +kernel
theorem dX5_init_19 : decode cX5_init 19 = .ok (.aload_n 0, 1) := by decide +kernel
theorem dX5_init_20 : decode cX5_init 20 = .ok (.iload 4, 2) := by decide +kernel
theorem dX5_init_22 : decode cX5_init 22 = .ok (.putfield 19, 3) := by decide +kernel
theorem dX5_init_25 : decode cX5_init 25 = .ok (.aload_n 0, 1) := by decide +kernel
theorem dX5_init_26 : decode cX5_init 26 = .ok (.new 23, 3) := by decide +kernel
theorem dX5_init_29 : decode cX5_init 29 = .ok (.dup, 1) := by decide +kernel
theorem dX5_init_30 : decode cX5_init 30 = .ok (.invokespecial 25, 3) := by decide +kernel
theorem dX5_init_33 : decode cX5_init 33 = .ok (.putfield 26, 3) := by decide +kernel
theorem dX5_init_36 : decode cX5_init 36 = .ok (.return_, 1) := by decide +kernel
set_option maxRecDepth 20000 in
theorem ggX5_pledged_Jx4a65c_size_8abf5 : GoodIn wsX5_pledged wsJx4a65c_size_8abf5 := goodIn_r _ [8, 9, 36, 37, 38] (by decide +kernel) (by decide +kernel)
set_option maxRecDepth 20000 in
theorem gX5_pledged_Jx4a65c_size_8abf5 : GoodIn wsX5_pledged (wsV RX5 30 RJx4a65c yJx4a65c_size_8abf5 wsJx4a65c_size_8abf5) := goodIn_app (goodIn_of _ (by decide +kernel)) ggX5_pledged_Jx4a65c_size_8abf5
set_option maxRecDepth 20000 in
theorem ggX5_pledged_Jx4a65c_get_915e3 : GoodIn wsX5_pledged wsJx4a65c_get_915e3 := goodIn_r _ [13, 9, 14, 15, 16, 17, 18, 19, 20, 21, 22, 23, 24, 7, 25, 26, 36, 37, 38] (by decide +kernel) (by decide +kernel)
set_option maxRecDepth 20000 in
theorem gX5_pledged_Jx4a65c_get_915e3 : GoodIn wsX5_pledged (wsV RX5 34 RJx4a65c yJx4a65c_get_915e3 wsJx4a65c_get_915e3) := goodIn_app (goodIn_of _ (by decide +kernel)) ggX5_pledged_Jx4a65c_get_915e3
theorem dX5_pledged_0 : decode cX5_pledged 0 = .ok (.iconst 0, 1) := by decide +kernel
theorem dX5_pledged_1 : decode cX5_pledged 1 = .ok (.istore_n 1, 1) := by decide +kernel
theorem dX5_pledged_2 : decode cX5_pledged 2 = .ok (.iconst 0, 1) := by decide +kernel
theorem dX5_pledged_3 : decode cX5_pledged 3 = .ok (.istore_n 2, 1) := by decide +kernel
theorem dX5_pledged_4 : decode cX5_pledged 4 = .ok (.iload_n 2, 1) := by decide +kernel
theorem dX5_pledged_5 : decode cX5_pledged 5 = .ok (.aload_n 0, 1) := by decide +kernel
theorem dX5_pledged_6 : decode cX5_pledged 6 = .ok (.getfield 26, 3) := by decide +kernel
theorem dX5_pledged_9 : decode cX5_pledged 9 = .ok (.invokevirtual 30, 3) := by decide +kernel
theorem dX5_pledged_12 : decode cX5_pledged 12 = .ok (.if_icmp .ge 26, 3) := by decide +kernel
theorem dX5_pledged_15 : decode cX5_pledged 15 = .ok (.iload_n 1, 1) := by decide +kernel
theorem dX5_pledged_16 : decode cX5_pledged 16 = .ok (.aload_n 0, 1) := by decide +kernel
theorem dX5_pledged_17 : decode cX5_pledged 17 = .ok (.getfield 26, 3) := by decide +kernel
theorem dX5_pledged_20 : decode cX5_pledged 20 = .ok (.iload_n 2, 1) := by decide +kernel
theorem dX5_pledged_21 : decode cX5_pledged 21 = .ok (.invokevirtual 34, 3) := by decide +kernel
theorem dX5_pledged_24 : decode cX5_pledged 24 = .ok (.checkcast 38, 3) := by decide +kernel
theorem dX5_pledged_27 : decode cX5_pledged 27 = .ok (.getfield 40, 3) := by decide +kernel
theorem dX5_pledged_30 : decode cX5_pledged 30 = .ok (.iadd, 1) := by decide +kernel
theorem dX5_pledged_31 : decode cX5_pledged 31 = .ok (.istore_n 1, 1) := by decide +kernel
theorem dX5_pledged_32 : decode cX5_pledged 32 = .ok (.iinc 2 1, 3) := by decide +kernel
theorem dX5_pledged_35 : decode cX5_pledged 35 = .ok (.goto (-31), 3) := by decide +kernel
theorem dX5_pledged_38 : decode cX5_pledged 38 = .ok (.iload_n 1, 1) := by decide +kernel
theorem dX5_pledged_39 : decode cX5_pledged 39 = .ok (.ireturn, 1) := by decide +kernel
set_option maxRecDepth 20000 in
theorem ggX5_pledgedBy_Jx4a65c_size_8abf5 : GoodIn wsX5_pledgedBy wsJx4a65c_size_8abf5 := goodIn_r _ [9, 10, 37, 38, 39] (by decide +kernel) (by decide +kernel)
set_option maxRecDepth 20000 in
theorem gX5_pledgedBy_Jx4a65c_size_8abf5 : GoodIn wsX5_pledgedBy (wsV RX5 30 RJx4a65c yJx4a65c_size_8abf5 wsJx4a65c_size_8abf5) := goodIn_app (goodIn_of _ (by decide +kernel)) ggX5_pledgedBy_Jx4a65c_size_8abf5
set_option maxRecDepth 20000 in
theorem ggX5_pledgedBy_Jx4a65c_get_915e3 : GoodIn wsX5_pledgedBy wsJx4a65c_get_915e3 := goodIn_r _ [14, 10, 15, 16, 17, 18, 19, 20, 21, 22, 23, 24, 25, 8, 26, 27, 37, 38, 39] (by decide +kernel) (by decide +kernel)
set_option maxRecDepth 20000 in
theorem gX5_pledgedBy_Jx4a65c_get_915e3 : GoodIn wsX5_pledgedBy (wsV RX5 34 RJx4a65c yJx4a65c_get_915e3 wsJx4a65c_get_915e3) := goodIn_app (goodIn_of _ (by decide +kernel)) ggX5_pledgedBy_Jx4a65c_get_915e3
theorem dX5_pledgedBy_0 : decode cX5_pledgedBy 0 = .ok (.iconst 0, 1) := by decide +kernel
theorem dX5_pledgedBy_1 : decode cX5_pledgedBy 1 = .ok (.istore_n 2, 1) := by decide +kernel
theorem dX5_pledgedBy_2 : decode cX5_pledgedBy 2 = .ok (.iconst 0, 1) := by decide +kernel
theorem dX5_pledgedBy_3 : decode cX5_pledgedBy 3 = .ok (.istore_n 3, 1) := by decide +kernel
theorem dX5_pledgedBy_4 : decode cX5_pledgedBy 4 = .ok (.iload_n 3, 1) := by decide +kernel
theorem dX5_pledgedBy_5 : decode cX5_pledgedBy 5 = .ok (.aload_n 0, 1) := by decide +kernel
theorem dX5_pledgedBy_6 : decode cX5_pledgedBy 6 = .ok (.getfield 26, 3) := by decide +kernel
theorem dX5_pledgedBy_9 : decode cX5_pledgedBy 9 = .ok (.invokevirtual 30, 3) := by decide +kernel
theorem dX5_pledgedBy_12 : decode cX5_pledgedBy 12 = .ok (.if_icmp .ge 39, 3) := by decide +kernel
theorem dX5_pledgedBy_15 : decode cX5_pledgedBy 15 = .ok (.aload_n 0, 1) := by decide +kernel
theorem dX5_pledgedBy_16 : decode cX5_pledgedBy 16 = .ok (.getfield 26, 3) := by decide +kernel
theorem dX5_pledgedBy_19 : decode cX5_pledgedBy 19 = .ok (.iload_n 3, 1) := by decide +kernel
theorem dX5_pledgedBy_20 : decode cX5_pledgedBy 20 = .ok (.invokevirtual 34, 3) := by decide +kernel
theorem dX5_pledgedBy_23 : decode cX5_pledgedBy 23 = .ok (.checkcast 38, 3) := by decide +kernel
theorem dX5_pledgedBy_26 : decode cX5_pledgedBy 26 = .ok (.astore 4, 2) := by decide +kernel
theorem dX5_pledgedBy_28 : decode cX5_pledgedBy 28 = .ok (.aload 4, 2) := by decide +kernel
theorem dX5_pledgedBy_30 : decode cX5_pledgedBy 30 = .ok (.getfield 43, 3) := by decide +kernel
theorem dX5_pledgedBy_33 : decode cX5_pledgedBy 33 = .ok (.aload_n 1, 1) := by decide +kernel
theorem dX5_pledgedBy_34 : decode cX5_pledgedBy 34 = .ok (.if_acmp .ne 11, 3) := by decide +kernel
theorem dX5_pledgedBy_37 : decode cX5_pledgedBy 37 = .ok (.iload_n 2, 1) := by decide +kernel
theorem dX5_pledgedBy_38 : decode cX5_pledgedBy 38 = .ok (.aload 4, 2) := by decide +kernel
theorem dX5_pledgedBy_40 : decode cX5_pledgedBy 40 = .ok (.getfield 40, 3) := by decide +kernel
theorem dX5_pledgedBy_43 : decode cX5_pledgedBy 43 = .ok (.iadd, 1) := by decide +kernel
theorem dX5_pledgedBy_44 : decode cX5_pledgedBy 44 = .ok (.istore_n 2, 1) := by decide +kernel
theorem dX5_pledgedBy_45 : decode cX5_pledgedBy 45 = .ok (.iinc 3 1, 3) := by decide +kernel
theorem dX5_pledgedBy_48 : decode cX5_pledgedBy 48 = .ok (.goto (-44), 3) := by decide +kernel
theorem dX5_pledgedBy_51 : decode cX5_pledgedBy 51 = .ok (.iload_n 2, 1) := by decide +kernel
theorem dX5_pledgedBy_52 : decode cX5_pledgedBy 52 = .ok (.ireturn, 1) := by decide +kernel
set_option maxRecDepth 20000 in
theorem ggX5_lacking_X5_pledged : GoodIn wsX5_lacking wsX5_pledged := goodIn_r _ [11, 12, 13, 14, 15, 16, 17, 18, 19, 20, 21, 22, 23, 24, 25, 26, 27, 28, 29, 30, 31, 32, 33, 34, 35, 36, 37, 38, 39, 40, 41, 42, 43, 44, 45, 46, 47, 48, 49] (by decide +kernel) (by decide +kernel)
set_option maxRecDepth 20000 in
theorem gX5_lacking_X5_pledged : GoodIn wsX5_lacking (wsV RX5 47 RX5 yX5_pledged wsX5_pledged) := goodIn_app (goodIn_of _ (by decide +kernel)) ggX5_lacking_X5_pledged
theorem dX5_lacking_0 : decode cX5_lacking 0 = .ok (.aload_n 0, 1) := by decide +kernel
theorem dX5_lacking_1 : decode cX5_lacking 1 = .ok (.getfield 19, 3) := by decide +kernel
theorem dX5_lacking_4 : decode cX5_lacking 4 = .ok (.ifCond .eq 19, 3) := by decide +kernel
theorem dX5_lacking_7 : decode cX5_lacking 7 = .ok (.iconst 0, 1) := by decide +kernel
theorem dX5_lacking_8 : decode cX5_lacking 8 = .ok (.aload_n 0, 1) := by decide +kernel
theorem dX5_lacking_9 : decode cX5_lacking 9 = .ok (.getfield 16, 3) := by decide +kernel
theorem dX5_lacking_12 : decode cX5_lacking 12 = .ok (.aload_n 0, 1) := by decide +kernel
theorem dX5_lacking_13 : decode cX5_lacking 13 = .ok (.invokevirtual 47, 3) := by decide +kernel
theorem dX5_lacking_16 : decode cX5_lacking 16 = .ok (.isub, 1) := by decide +kernel
theorem dX5_lacking_17 : decode cX5_lacking 17 = .ok (.invokestatic 50, 3) := by decide +kernel
theorem dX5_lacking_20 : decode cX5_lacking 20 = .ok (.goto 4, 3) := by decide +kernel
theorem dX5_lacking_23 : decode cX5_lacking 23 = .ok (.iconst 0, 1) := by decide +kernel
theorem dX5_lacking_24 : decode cX5_lacking 24 = .ok (.ireturn, 1) := by decide +kernel
set_option maxRecDepth 20000 in
theorem ggX5_isOrdered_X5_lacking : GoodIn wsX5_isOrdered wsX5_lacking := goodIn_r _ [6, 1, 7, 8, 9, 10, 11, 12, 13, 14, 5, 15, 16, 17, 18, 19, 20, 21, 22, 23, 24, 25, 26, 27, 28, 29, 30, 31, 32, 33, 34, 35, 36, 37, 38, 39, 40, 41, 42, 43, 44, 45, 46, 47, 48, 49, 50, 51, 52, 53] (by decide +kernel) (by decide +kernel)
set_option maxRecDepth 20000 in
theorem gX5_isOrdered_X5_lacking : GoodIn wsX5_isOrdered (wsV RX5 56 RX5 yX5_lacking wsX5_lacking) := goodIn_app (goodIn_of _ (by decide +kernel)) ggX5_isOrdered_X5_lacking
theorem dX5_isOrdered_0 : decode cX5_isOrdered 0 = .ok (.aload_n 0, 1) := by decide +kernel
theorem dX5_isOrdered_1 : decode cX5_isOrdered 1 = .ok (.getfield 19, 3) := by decide +kernel
theorem dX5_isOrdered_4 : decode cX5_isOrdered 4 = .ok (.ifCond .eq 14, 3) := by decide +kernel
theorem dX5_isOrdered_7 : decode cX5_isOrdered 7 = .ok (.aload_n 0, 1) := by decide +kernel
theorem dX5_isOrdered_8 : decode cX5_isOrdered 8 = .ok (.invokevirtual 56, 3) := by decide +kernel
theorem dX5_isOrdered_11 : decode cX5_isOrdered 11 = .ok (.ifCond .ne 7, 3) := by decide +kernel
theorem dX5_isOrdered_14 : decode cX5_isOrdered 14 = .ok (.iconst 1, 1) := by decide +kernel
theorem dX5_isOrdered_15 : decode cX5_isOrdered 15 = .ok (.goto 4, 3) := by decide +kernel
theorem dX5_isOrdered_18 : decode cX5_isOrdered 18 = .ok (.iconst 0, 1) := by decide +kernel
theorem dX5_isOrdered_19 : decode cX5_isOrdered 19 = .ok (.ireturn, 1) := by decide +kernel
set_option maxRecDepth 20000 in
theorem ggX6_init_Jx4a65c_init_da8c8 : GoodIn wsX6_init wsJx4a65c_init_da8c8 := goodIn_r _ [14, 15, 16, 17, 18, 19, 20, 21, 22, 23, 24, 25, 26, 2, 3, 27, 28, 29] (by decide +kernel) (by decide +kernel)
set_option maxRecDepth 20000 in
theorem gX6_init_Jx4a65c_init_da8c8 : GoodIn wsX6_init (wsJx4a65c_init_da8c8) := ggX6_init_Jx4a65c_init_da8c8
theorem dX6_init_0 : decode cX6_init 0 = .ok (.aload_n 0, 1) := by decide +kernel
theorem dX6_init_1 : decode cX6_init 1 = .ok (.invokespecial 3, 3) := by decide +kernel
theorem dX6_init_4 : decode cX6_init 4 = .ok (.aload_n 0, 1) := by decide +kernel
theorem dX6_init_5 : decode cX6_init 5 = .ok (.new 9, 3) := by decide +kernel
theorem dX6_init_8 : decode cX6_init 8 = .ok (.dup, 1) := by decide +kernel
theorem dX6_init_9 : decode cX6_init 9 = .ok (.invokespecial 11, 3) := by decide +kernel
theorem dX6_init_12 : decode cX6_init 12 = .ok (.putfield 12, 3) := by decide +kernel
theorem dX6_init_15 : decode cX6_init 15 = .ok (.aload_n 0, 1) := by decide +kernel
theorem dX6_init_16 : decode cX6_init 16 = .ok (.new 9, 3) := by decide +kernel
theorem dX6_init_19 : decode cX6_init 19 = .ok (.dup, 1) := by decide +kernel
theorem dX6_init_20 : decode cX6_init 20 = .ok (.invokespecial 11, 3) := by decide +kernel
theorem dX6_init_23 : decode cX6_init 23 = .ok (.putfield 16, 3) := by decide +kernel
theorem dX6_init_26 : decode cX6_init 26 = .ok (.aload_n 0, 1) := by decide +kernel
theorem dX6_init_27 : decode cX6_init 27 = .ok (.new 9, 3) := by decide +kernel
theorem dX6_init_30 : decode cX6_init 30 = .ok (.dup, 1) := by decide +kernel
theorem dX6_init_31 : decode cX6_init 31 = .ok (.invokespecial 11, 3) := by decide +kernel
theorem dX6_init_34 : decode cX6_init 34 = .ok (.putfield 19, 3) := by decide +kernel
theorem dX6_init_37 : decode cX6_init 37 = .ok (.aload_n 0, 1) := by decide +kernel
theorem dX6_init_38 : decode cX6_init 38 = .ok (.new 9, 3) := by decide +kernel
theorem dX6_init_41 : decode cX6_init 41 = .ok (.dup, 1) := by decide +kernel
theorem dX6_init_42 : decode cX6_init 42 = .ok (.invokespecial 11, 3) := by decide +kernel
theorem dX6_init_45 : decode cX6_init 45 = .ok (.putfield 22, 3) := by decide +kernel
theorem dX6_init_48 : decode cX6_init 48 = .ok (.aload_n 0, 1) := by decide +kernel
theorem dX6_init_49 : decode cX6_init 49 = .ok (.bipush 7, 2) := by decide +kernel
theorem dX6_init_51 : decode cX6_init 51 = .ok (.putfield 25, 3) := by decide +kernel
theorem dX6_init_54 : decode cX6_init 54 = .ok (.return_, 1) := by decide +kernel
set_option maxRecDepth 20000 in
theorem ggX6_wish_X6_addWish : GoodIn wsX6_wish wsX6_addWish := goodIn_ca (goodIn_r _ [7, 8, 9, 10, 11, 12, 13, 14, 15, 16, 6, 17, 18, 19, 20, 21, 22, 23, 24, 25, 26, 27, 28, 29, 30, 31, 32, 33, 34, 35, 36, 37, 38, 39, 40, 41, 42, 43, 44, 45, 46, 47, 48, 49, 50, 51, 52, 53, 54, 55, 56, 57, 58, 59, 60, 61, 62, 63, 64, 65, 66, 67, 68, 69, 70, 71, 72, 73, 74, 75, 76, 77, 78, 79, 80, 81, 82, 83, 84, 85, 86, 87, 88, 89, 90, 91, 92, 93, 94, 95, 96, 97, 98, 99, 100, 101, 102, 103, 104, 105, 106, 107, 108, 109, 110, 111, 112, 113, 114, 115, 116, 117, 118, 119, 120, 121, 122, 123] (by decide +kernel) (by decide +kernel)) (goodIn_sub (fun _ h => List.mem_cons_of_mem _ (List.mem_append_right _ h)) (by decide +kernel))
set_option maxRecDepth 20000 in
theorem gX6_wish_X6_addWish : GoodIn wsX6_wish (wsV RX6 38 RX6 yX6_addWish wsX6_addWish) := goodIn_app (goodIn_of _ (by decide +kernel)) ggX6_wish_X6_addWish
theorem dX6_wish_0 : decode cX6_wish 0 = .ok (.iload_n 1, 1) := by decide +kernel
theorem dX6_wish_1 : decode cX6_wish 1 = .ok (.iconst 1, 1) := by decide +kernel
theorem dX6_wish_2 : decode cX6_wish 2 = .ok (.if_icmp .lt 8, 3) := by decide +kernel
theorem dX6_wish_5 : decode cX6_wish 5 = .ok (.iload_n 1, 1) := by decide +kernel
theorem dX6_wish_6 : decode cX6_wish 6 = .ok (.iconst 5, 1) := by decide +kernel
theorem dX6_wish_7 : decode cX6_wish 7 = .ok (.if_icmp .le 13, 3) := by decide +kernel
theorem dX6_wish_10 : decode cX6_wish 10 = .ok (.new 29, 3) := by decide +kernel
theorem dX6_wish_13 : decode cX6_wish 13 = .ok (.dup, 1) := by decide +kernel
theorem dX6_wish_14 : decode cX6_wish 14 = .ok (.ldc 31, 2) := by decide +kernel
theorem dX6_wish_16 : decode cX6_wish 16 = .ok (.invokespecial 33, 3) := by decide +kernel
theorem dX6_wish_19 : decode cX6_wish 19 = .ok (.athrow, 1) := by decide +kernel
theorem dX6_wish_20 : decode cX6_wish 20 = .ok (.iload_n 2, 1) := by decide +kernel
theorem dX6_wish_21 : decode cX6_wish 21 = .ok (.iconst 1, 1) := by decide +kernel
theorem dX6_wish_22 : decode cX6_wish 22 = .ok (.if_icmp .lt 10, 3) := by decide +kernel
theorem dX6_wish_25 : decode cX6_wish 25 = .ok (.iload_n 2, 1) := by decide +kernel
theorem dX6_wish_26 : decode cX6_wish 26 = .ok (.sipush 999, 3) := by decide +kernel
theorem dX6_wish_29 : decode cX6_wish 29 = .ok (.if_icmp .le 13, 3) := by decide +kernel
theorem dX6_wish_32 : decode cX6_wish 32 = .ok (.new 29, 3) := by decide +kernel
theorem dX6_wish_35 : decode cX6_wish 35 = .ok (.dup, 1) := by decide +kernel
theorem dX6_wish_36 : decode cX6_wish 36 = .ok (.ldc 36, 2) := by decide +kernel
theorem dX6_wish_38 : decode cX6_wish 38 = .ok (.invokespecial 33, 3) := by decide +kernel
theorem dX6_wish_41 : decode cX6_wish 41 = .ok (.athrow, 1) := by decide +kernel
theorem dX6_wish_42 : decode cX6_wish 42 = .ok (.aload_n 0, 1) := by decide +kernel
theorem dX6_wish_43 : decode cX6_wish 43 = .ok (.iload_n 1, 1) := by decide +kernel
theorem dX6_wish_44 : decode cX6_wish 44 = .ok (.iload_n 2, 1) := by decide +kernel
theorem dX6_wish_45 : decode cX6_wish 45 = .ok (.iconst 0, 1) := by decide +kernel
theorem dX6_wish_46 : decode cX6_wish 46 = .ok (.invokevirtual 38, 3) := by decide +kernel
theorem dX6_wish_49 : decode cX6_wish 49 = .ok (.ireturn, 1) := by decide +kernel
set_option maxRecDepth 20000 in
theorem ggX6_shared_X6_addWish : GoodIn wsX6_shared wsX6_addWish := goodIn_ca (goodIn_r _ [7, 8, 9, 10, 11, 12, 13, 14, 15, 16, 6, 17, 18, 19, 20, 21, 22, 23, 24, 25, 26, 27, 28, 29, 30, 31, 32, 33, 34, 35, 36, 37, 38, 39, 40, 41, 42, 43, 44, 45, 46, 47, 48, 49, 50, 51, 52, 53, 54, 55, 56, 57, 58, 59, 60, 61, 62, 63, 64, 65, 66, 67, 68, 69, 70, 71, 72, 73, 74, 75, 76, 77, 78, 79, 80, 81, 82, 83, 84, 85, 86, 87, 88, 89, 90, 91, 92, 93, 94, 95, 96, 97, 98, 99, 100, 101, 102, 103, 104, 105, 106, 107, 108, 109, 110, 111, 112, 113, 114, 115, 116, 117, 118, 119, 120, 121, 122, 123] (by decide +kernel) (by decide +kernel)) (goodIn_sub (fun _ h => List.mem_cons_of_mem _ (List.mem_append_right _ h)) (by decide +kernel))
set_option maxRecDepth 20000 in
theorem gX6_shared_X6_addWish : GoodIn wsX6_shared (wsV RX6 38 RX6 yX6_addWish wsX6_addWish) := goodIn_app (goodIn_of _ (by decide +kernel)) ggX6_shared_X6_addWish
theorem dX6_shared_0 : decode cX6_shared 0 = .ok (.iload_n 1, 1) := by decide +kernel
theorem dX6_shared_1 : decode cX6_shared 1 = .ok (.iconst 1, 1) := by decide +kernel
theorem dX6_shared_2 : decode cX6_shared 2 = .ok (.if_icmp .lt 10, 3) := by decide +kernel
theorem dX6_shared_5 : decode cX6_shared 5 = .ok (.iload_n 1, 1) := by decide +kernel
theorem dX6_shared_6 : decode cX6_shared 6 = .ok (.sipush 9999, 3) := by decide +kernel
theorem dX6_shared_9 : decode cX6_shared 9 = .ok (.if_icmp .le 13, 3) := by decide +kernel
theorem dX6_shared_12 : decode cX6_shared 12 = .ok (.new 29, 3) := by decide +kernel
theorem dX6_shared_15 : decode cX6_shared 15 = .ok (.dup, 1) := by decide +kernel
theorem dX6_shared_16 : decode cX6_shared 16 = .ok (.ldc 42, 2) := by decide +kernel
theorem dX6_shared_18 : decode cX6_shared 18 = .ok (.invokespecial 33, 3) := by decide +kernel
theorem dX6_shared_21 : decode cX6_shared 21 = .ok (.athrow, 1) := by decide +kernel
theorem dX6_shared_22 : decode cX6_shared 22 = .ok (.aload_n 0, 1) := by decide +kernel
theorem dX6_shared_23 : decode cX6_shared 23 = .ok (.iconst 1, 1) := by decide +kernel
theorem dX6_shared_24 : decode cX6_shared 24 = .ok (.iload_n 1, 1) := by decide +kernel
theorem dX6_shared_25 : decode cX6_shared 25 = .ok (.iconst 1, 1) := by decide +kernel
theorem dX6_shared_26 : decode cX6_shared 26 = .ok (.invokevirtual 38, 3) := by decide +kernel
theorem dX6_shared_29 : decode cX6_shared 29 = .ok (.ireturn, 1) := by decide +kernel
set_option maxRecDepth 20000 in
theorem ggX6_addWish_X6_refuseIfCalledOff : GoodIn wsX6_addWish wsX6_refuseIfCalledOff := goodIn_ca (goodIn_r _ [11, 1, 2, 12, 99, 100, 101, 102, 103, 104, 105, 106, 107] (by decide +kernel) (by decide +kernel)) (goodIn_sub (fun _ h => List.mem_cons_of_mem _ (List.mem_append_right _ h)) (by decide +kernel))
set_option maxRecDepth 20000 in
theorem gX6_addWish_X6_refuseIfCalledOff : GoodIn wsX6_addWish (wsV RX6 44 RX6 yX6_refuseIfCalledOff wsX6_refuseIfCalledOff) := goodIn_app (goodIn_of _ (by decide +kernel)) ggX6_addWish_X6_refuseIfCalledOff
set_option maxRecDepth 20000 in
theorem ggX6_addWish_Jx4a65c_size_8abf5 : GoodIn wsX6_addWish wsJx4a65c_size_8abf5 := goodIn_r _ [17, 18, 115, 116, 117] (by decide +kernel) (by decide +kernel)
set_option maxRecDepth 20000 in
theorem gX6_addWish_Jx4a65c_size_8abf5 : GoodIn wsX6_addWish (wsV RX6 47 RJx4a65c yJx4a65c_size_8abf5 wsJx4a65c_size_8abf5) := goodIn_app (goodIn_of _ (by decide +kernel)) ggX6_addWish_Jx4a65c_size_8abf5
set_option maxRecDepth 20000 in
theorem ggX6_addWish_X5_init : GoodIn wsX6_addWish wsX5_init := goodIn_r _ [21, 22, 23, 24, 25, 26, 27, 28, 29, 30, 16, 31, 32, 33, 34, 35, 36, 37, 38, 39, 40, 41, 42, 43, 44, 45, 46, 108, 109, 110, 111, 112, 113, 114, 115, 116, 117] (by decide +kernel) (by decide +kernel)
set_option maxRecDepth 20000 in
theorem gX6_addWish_X5_init : GoodIn wsX6_addWish (wsX5_init) := ggX6_addWish_X5_init
set_option maxRecDepth 20000 in
theorem ggX6_addWish_Jx4a65c_add_9ea2d : GoodIn wsX6_addWish wsJx4a65c_add_9ea2d := goodIn_r _ [50, 51, 52, 36, 18, 53, 54, 55, 16, 56, 57, 58, 59, 60, 61, 62, 63, 64, 35, 65, 66, 67, 68, 69, 70, 71, 72, 73, 74, 75, 76, 77, 78, 79, 80, 81, 82, 83, 84, 85, 86, 87, 88, 89, 90, 91, 92, 93, 94, 95, 96, 97, 98, 115, 116, 117] (by decide +kernel) (by decide +kernel)
set_option maxRecDepth 20000 in
theorem gX6_addWish_Jx4a65c_add_9ea2d : GoodIn wsX6_addWish (wsV RX6 61 RJx4a65c yJx4a65c_add_9ea2d wsJx4a65c_add_9ea2d) := goodIn_app (goodIn_of _ (by decide +kernel)) ggX6_addWish_Jx4a65c_add_9ea2d
theorem dX6_addWish_0 : decode cX6_addWish 0 = .ok (.aload_n 0, 1) := by decide +kernel
theorem dX6_addWish_1 : decode cX6_addWish 1 = .ok (.invokevirtual 44, 3) := by decide +kernel
theorem dX6_addWish_4 : decode cX6_addWish 4 = .ok (.aload_n 0, 1) := by decide +kernel
theorem dX6_addWish_5 : decode cX6_addWish 5 = .ok (.getfield 12, 3) := by decide +kernel
theorem dX6_addWish_8 : decode cX6_addWish 8 = .ok (.invokevirtual 47, 3) := by decide +kernel
theorem dX6_addWish_11 : decode cX6_addWish 11 = .ok (.istore 4, 2) := by decide +kernel
theorem dX6_addWish_13 : decode cX6_addWish 13 = .ok (.iload 4, 2) := by decide +kernel
theorem dX6_addWish_15 : decode cX6_addWish 15 = .ok (.bipush 8, 2) := by decide +kernel
theorem dX6_addWish_17 : decode cX6_addWish 17 = .ok (.if_icmp .lt 13, 3) := by decide +kernel
theorem dX6_addWish_20 : decode cX6_addWish 20 = .ok (.new 51, 3) := by decide +kernel
theorem dX6_addWish_23 : decode cX6_addWish 23 = .ok (.dup, 1) := by decide +kernel
theorem dX6_addWish_24 : decode cX6_addWish 24 = .ok (.ldc 53, 2) := by decide +kernel
theorem dX6_addWish_26 : decode cX6_addWish 26 = .ok (.invokespecial 55, 3) := by decide +kernel
theorem dX6_addWish_29 : decode cX6_addWish 29 = .ok (.athrow, 1) := by decide +kernel
theorem dX6_addWish_30 : decode cX6_addWish 30 = .ok (.aload_n 0, 1) := by decide +kernel
theorem dX6_addWish_31 : decode cX6_addWish 31 = .ok (.getfield 12, 3) := by decide +kernel
theorem dX6_addWish_34 : decode cX6_addWish 34 = .ok (.new 56, 3) := by decide +kernel
theorem dX6_addWish_37 : decode cX6_addWish 37 = .ok (.dup, 1) := by decide +kernel
theorem dX6_addWish_38 : decode cX6_addWish 38 = .ok (.iload 4, 2) := by decide +kernel
theorem dX6_addWish_40 : decode cX6_addWish 40 = .ok (.iload_n 1, 1) := by decide +kernel
theorem dX6_addWish_41 : decode cX6_addWish 41 = .ok (.iload_n 2, 1) := by decide +kernel
theorem dX6_addWish_42 : decode cX6_addWish 42 = .ok (.iload_n 3, 1) := by decide +kernel
theorem dX6_addWish_43 : decode cX6_addWish 43 = .ok (.invokespecial 58, 3) := by decide +kernel
theorem dX6_addWish_46 : decode cX6_addWish 46 = .ok (.invokevirtual 61, 3) := by decide +kernel
theorem dX6_addWish_49 : decode cX6_addWish 49 = .ok (.pop, 1) := by decide +kernel
theorem dX6_addWish_50 : decode cX6_addWish 50 = .ok (.iload 4, 2) := by decide +kernel
theorem dX6_addWish_52 : decode cX6_addWish 52 = .ok (.ireturn, 1) := by decide +kernel
set_option maxRecDepth 20000 in
theorem ggX6_guest_Jx4a65c_size_8abf5 : GoodIn wsX6_guest wsJx4a65c_size_8abf5 := goodIn_r _ [13, 14, 88, 89, 90] (by decide +kernel) (by decide +kernel)
set_option maxRecDepth 20000 in
theorem gX6_guest_Jx4a65c_size_8abf5 : GoodIn wsX6_guest (wsV RX6 47 RJx4a65c yJx4a65c_size_8abf5 wsJx4a65c_size_8abf5) := goodIn_app (goodIn_of _ (by decide +kernel)) ggX6_guest_Jx4a65c_size_8abf5
set_option maxRecDepth 20000 in
theorem ggX6_guest_X2_init : GoodIn wsX6_guest wsX2_init := goodIn_r _ [17, 18, 19, 20, 21, 22, 86, 87] (by decide +kernel) (by decide +kernel)
set_option maxRecDepth 20000 in
theorem gX6_guest_X2_init : GoodIn wsX6_guest (wsX2_init) := ggX6_guest_X2_init
set_option maxRecDepth 20000 in
theorem ggX6_guest_Jx4a65c_add_9ea2d : GoodIn wsX6_guest wsJx4a65c_add_9ea2d := goodIn_r _ [26, 27, 28, 29, 14, 30, 31, 32, 12, 33, 34, 35, 36, 37, 38, 39, 40, 41, 42, 43, 44, 45, 46, 47, 48, 49, 50, 51, 52, 53, 54, 55, 56, 57, 58, 59, 60, 61, 62, 63, 64, 65, 66, 67, 68, 69, 70, 71, 72, 73, 74, 75, 76, 88, 89, 90] (by decide +kernel) (by decide +kernel)
set_option maxRecDepth 20000 in
theorem gX6_guest_Jx4a65c_add_9ea2d : GoodIn wsX6_guest (wsV RX6 61 RJx4a65c yJx4a65c_add_9ea2d wsJx4a65c_add_9ea2d) := goodIn_app (goodIn_of _ (by decide +kernel)) ggX6_guest_Jx4a65c_add_9ea2d
theorem dX6_guest_0 : decode cX6_guest 0 = .ok (.iload_n 1, 1) := by decide +kernel
theorem dX6_guest_1 : decode cX6_guest 1 = .ok (.ifCond .lt 10, 3) := by decide +kernel
theorem dX6_guest_4 : decode cX6_guest 4 = .ok (.iload_n 1, 1) := by decide +kernel
theorem dX6_guest_5 : decode cX6_guest 5 = .ok (.sipush 9999, 3) := by decide +kernel
theorem dX6_guest_8 : decode cX6_guest 8 = .ok (.if_icmp .le 13, 3) := by decide +kernel
theorem dX6_guest_11 : decode cX6_guest 11 = .ok (.new 29, 3) := by decide +kernel
theorem dX6_guest_14 : decode cX6_guest 14 = .ok (.dup, 1) := by decide +kernel
theorem dX6_guest_15 : decode cX6_guest 15 = .ok (.ldc 65, 2) := by decide +kernel
theorem dX6_guest_17 : decode cX6_guest 17 = .ok (.invokespecial 33, 3) := by decide +kernel
theorem dX6_guest_20 : decode cX6_guest 20 = .ok (.athrow, 1) := by decide +kernel
theorem dX6_guest_21 : decode cX6_guest 21 = .ok (.aload_n 0, 1) := by decide +kernel
theorem dX6_guest_22 : decode cX6_guest 22 = .ok (.getfield 16, 3) := by decide +kernel
theorem dX6_guest_25 : decode cX6_guest 25 = .ok (.invokevirtual 47, 3) := by decide +kernel
theorem dX6_guest_28 : decode cX6_guest 28 = .ok (.istore_n 2, 1) := by decide +kernel
theorem dX6_guest_29 : decode cX6_guest 29 = .ok (.iload_n 2, 1) := by decide +kernel
theorem dX6_guest_30 : decode cX6_guest 30 = .ok (.bipush 6, 2) := by decide +kernel
theorem dX6_guest_32 : decode cX6_guest 32 = .ok (.if_icmp .lt 13, 3) := by decide +kernel
theorem dX6_guest_35 : decode cX6_guest 35 = .ok (.new 51, 3) := by decide +kernel
theorem dX6_guest_38 : decode cX6_guest 38 = .ok (.dup, 1) := by decide +kernel
theorem dX6_guest_39 : decode cX6_guest 39 = .ok (.ldc 67, 2) := by decide +kernel
theorem dX6_guest_41 : decode cX6_guest 41 = .ok (.invokespecial 55, 3) := by decide +kernel
theorem dX6_guest_44 : decode cX6_guest 44 = .ok (.athrow, 1) := by decide +kernel
theorem dX6_guest_45 : decode cX6_guest 45 = .ok (.aload_n 0, 1) := by decide +kernel
theorem dX6_guest_46 : decode cX6_guest 46 = .ok (.getfield 16, 3) := by decide +kernel
theorem dX6_guest_49 : decode cX6_guest 49 = .ok (.new 69, 3) := by decide +kernel
theorem dX6_guest_52 : decode cX6_guest 52 = .ok (.dup, 1) := by decide +kernel
theorem dX6_guest_53 : decode cX6_guest 53 = .ok (.iload_n 2, 1) := by decide +kernel
theorem dX6_guest_54 : decode cX6_guest 54 = .ok (.iload_n 1, 1) := by decide +kernel
theorem dX6_guest_55 : decode cX6_guest 55 = .ok (.invokespecial 71, 3) := by decide +kernel
theorem dX6_guest_58 : decode cX6_guest 58 = .ok (.invokevirtual 61, 3) := by decide +kernel
theorem dX6_guest_61 : decode cX6_guest 61 = .ok (.pop, 1) := by decide +kernel
theorem dX6_guest_62 : decode cX6_guest 62 = .ok (.iload_n 2, 1) := by decide +kernel
theorem dX6_guest_63 : decode cX6_guest 63 = .ok (.ireturn, 1) := by decide +kernel
set_option maxRecDepth 20000 in
theorem ggX6_price_X6_wishNumbered : GoodIn wsX6_price wsX6_wishNumbered := goodIn_ca (goodIn_r _ [9, 10, 11, 12, 13, 14, 15, 16, 17, 18, 19, 20, 21, 22, 23, 24, 25, 26, 27, 28, 29, 30, 31, 32, 33, 34, 35, 36, 113, 114, 115, 116, 117, 118, 119, 120, 121, 122, 123, 124] (by decide +kernel) (by decide +kernel)) (goodIn_sub (fun _ h => List.mem_cons_of_mem _ (List.mem_append_left _ (List.mem_append_right _ h))) (by decide +kernel))
set_option maxRecDepth 20000 in
theorem gX6_price_X6_wishNumbered : GoodIn wsX6_price (wsV RX6 74 RX6 yX6_wishNumbered wsX6_wishNumbered) := goodIn_app (goodIn_of _ (by decide +kernel)) ggX6_price_X6_wishNumbered
set_option maxRecDepth 20000 in
theorem ggX6_price_X6_refuseIfSettled : GoodIn wsX6_price wsX6_refuseIfSettled := goodIn_ca (goodIn_r _ [40, 41, 42, 43, 44, 45, 46, 8, 47, 48, 49, 50, 51, 52, 53, 54, 55, 56, 57, 58, 59, 60, 61, 62, 63, 64, 65, 66, 67, 68, 69, 70, 71, 15, 16, 17, 18, 19, 72, 21, 22, 23, 24, 25, 26, 27, 28, 29, 30, 31, 32, 33, 34, 35, 36, 106, 107, 108, 109, 110, 111, 112, 113, 114, 115, 116, 117, 118, 119, 120, 121, 125, 126, 122, 123, 124] (by decide +kernel) (by decide +kernel)) (goodIn_sub (fun _ h => List.mem_cons_of_mem _ (List.mem_append_right _ h)) (by decide +kernel))
set_option maxRecDepth 20000 in
theorem gX6_price_X6_refuseIfSettled : GoodIn wsX6_price (wsV RX6 84 RX6 yX6_refuseIfSettled wsX6_refuseIfSettled) := goodIn_app (goodIn_of _ (by decide +kernel)) ggX6_price_X6_refuseIfSettled
set_option maxRecDepth 20000 in
theorem ggX6_price_X5_pledged : GoodIn wsX6_price wsX5_pledged := goodIn_r _ [67, 68, 69, 70, 71, 15, 16, 17, 18, 19, 72, 21, 22, 23, 24, 25, 26, 27, 28, 29, 30, 31, 32, 33, 34, 35, 36, 106, 107, 108, 109, 110, 111, 112, 125, 126, 122, 123, 124] (by decide +kernel) (by decide +kernel)
set_option maxRecDepth 20000 in
theorem gX6_price_X5_pledged : GoodIn wsX6_price (wsV RX6 91 RX5 yX5_pledged wsX5_pledged) := goodIn_app (goodIn_of _ (by decide +kernel)) ggX6_price_X5_pledged
set_option maxRecDepth 20000 in
theorem ggX6_price_X6_sendPledgesBack : GoodIn wsX6_price wsX6_sendPledgesBack := goodIn_r _ [77, 78, 61, 62, 63, 79, 80, 81, 82, 83, 84, 85, 14, 15, 16, 17, 18, 19, 20, 21, 22, 23, 24, 25, 26, 27, 28, 29, 30, 31, 32, 33, 34, 35, 36, 86, 87, 88, 8, 89, 90, 91, 92, 93, 94, 95, 96, 97, 98, 99, 100, 101, 102, 103, 104, 105, 106, 107, 108, 109, 110, 111, 112, 125, 126, 122, 123, 124, 127, 128, 113, 114, 115, 116, 117, 118, 119, 120, 121] (by decide +kernel) (by decide +kernel)
set_option maxRecDepth 20000 in
theorem gX6_price_X6_sendPledgesBack : GoodIn wsX6_price (wsV RX6 94 RX6 yX6_sendPledgesBack wsX6_sendPledgesBack) := goodIn_app (goodIn_of _ (by decide +kernel)) ggX6_price_X6_sendPledgesBack
theorem dX6_price_0 : decode cX6_price 0 = .ok (.aload_n 0, 1) := by decide +kernel
theorem dX6_price_1 : decode cX6_price 1 = .ok (.iload_n 1, 1) := by decide +kernel
theorem dX6_price_2 : decode cX6_price 2 = .ok (.invokevirtual 74, 3) := by decide +kernel
theorem dX6_price_5 : decode cX6_price 5 = .ok (.astore_n 3, 1) := by decide +kernel
theorem dX6_price_6 : decode cX6_price 6 = .ok (.iload_n 2, 1) := by decide +kernel
theorem dX6_price_7 : decode cX6_price 7 = .ok (.iconst 1, 1) := by decide +kernel
theorem dX6_price_8 : decode cX6_price 8 = .ok (.if_icmp .lt 23, 3) := by decide +kernel
theorem dX6_price_11 : decode cX6_price 11 = .ok (.iload_n 2, 1) := by decide +kernel
theorem dX6_price_12 : decode cX6_price 12 = .ok (.aload_n 3, 1) := by decide +kernel
theorem dX6_price_13 : decode cX6_price 13 = .ok (.getfield 78, 3) := by decide +kernel
theorem dX6_price_16 : decode cX6_price 16 = .ok (.ifCond .eq 9, 3) := by decide +kernel
theorem dX6_price_19 : decode cX6_price 19 = .ok (.sipush 9999, 3) := by decide +kernel
theorem dX6_price_22 : decode cX6_price 22 = .ok (.goto 6, 3) := by decide +kernel
theorem dX6_price_25 : decode cX6_price 25 = .ok (.sipush 999, 3) := by decide +kernel
theorem dX6_price_28 : decode cX6_price 28 = .ok (.if_icmp .le 13, 3) := by decide +kernel
theorem dX6_price_31 : decode cX6_price 31 = .ok (.new 29, 3) := by decide +kernel
theorem dX6_price_34 : decode cX6_price 34 = .ok (.dup, 1) := by decide +kernel
theorem dX6_price_35 : decode cX6_price 35 = .ok (.ldc 82, 2) := by decide +kernel
theorem dX6_price_37 : decode cX6_price 37 = .ok (.invokespecial 33, 3) := by decide +kernel
theorem dX6_price_40 : decode cX6_price 40 = .ok (.athrow, 1) := by decide +kernel
theorem dX6_price_41 : decode cX6_price 41 = .ok (.aload_n 0, 1) := by decide +kernel
theorem dX6_price_42 : decode cX6_price 42 = .ok (.aload_n 3, 1) := by decide +kernel
theorem dX6_price_43 : decode cX6_price 43 = .ok (.invokevirtual 84, 3) := by decide +kernel
theorem dX6_price_46 : decode cX6_price 46 = .ok (.aload_n 3, 1) := by decide +kernel
theorem dX6_price_47 : decode cX6_price 47 = .ok (.iload_n 2, 1) := by decide +kernel
theorem dX6_price_48 : decode cX6_price 48 = .ok (.putfield 88, 3) := by decide +kernel
theorem dX6_price_51 : decode cX6_price 51 = .ok (.aload_n 0, 1) := by decide +kernel
theorem dX6_price_52 : decode cX6_price 52 = .ok (.aload_n 3, 1) := by decide +kernel
theorem dX6_price_53 : decode cX6_price 53 = .ok (.aload_n 3, 1) := by decide +kernel
theorem dX6_price_54 : decode cX6_price 54 = .ok (.invokevirtual 91, 3) := by decide +kernel
theorem dX6_price_57 : decode cX6_price 57 = .ok (.iload_n 2, 1) := by decide +kernel
theorem dX6_price_58 : decode cX6_price 58 = .ok (.isub, 1) := by decide +kernel
theorem dX6_price_59 : decode cX6_price 59 = .ok (.invokevirtual 94, 3) := by decide +kernel
theorem dX6_price_62 : decode cX6_price 62 = .ok (.ireturn, 1) := by decide +kernel
set_option maxRecDepth 20000 in
theorem ggX6_strike_X6_wishNumbered : GoodIn wsX6_strike wsX6_wishNumbered := goodIn_ca (goodIn_r _ [6, 7, 8, 9, 10, 11, 12, 13, 14, 15, 16, 17, 18, 19, 20, 21, 22, 23, 24, 25, 26, 27, 28, 29, 30, 31, 32, 33, 109, 110, 111, 112, 113, 114, 115, 116, 117, 118, 119, 120] (by decide +kernel) (by decide +kernel)) (goodIn_sub (fun _ h => List.mem_cons_of_mem _ (List.mem_append_left _ (List.mem_append_right _ h))) (by decide +kernel))
set_option maxRecDepth 20000 in
theorem gX6_strike_X6_wishNumbered : GoodIn wsX6_strike (wsV RX6 74 RX6 yX6_wishNumbered wsX6_wishNumbered) := goodIn_app (goodIn_of _ (by decide +kernel)) ggX6_strike_X6_wishNumbered
set_option maxRecDepth 20000 in
theorem ggX6_strike_X6_refuseIfSettled : GoodIn wsX6_strike wsX6_refuseIfSettled := goodIn_ca (goodIn_r _ [37, 38, 39, 1, 40, 41, 42, 5, 43, 44, 45, 46, 47, 48, 49, 50, 51, 52, 53, 54, 55, 56, 57, 58, 59, 60, 61, 62, 63, 64, 65, 66, 67, 12, 13, 14, 15, 16, 68, 18, 19, 20, 21, 22, 23, 24, 25, 26, 27, 28, 29, 30, 31, 32, 33, 102, 103, 104, 105, 106, 107, 108, 109, 110, 111, 112, 113, 114, 115, 116, 117, 121, 122, 118, 119, 120] (by decide +kernel) (by decide +kernel)) (goodIn_sub (fun _ h => List.mem_cons_of_mem _ (List.mem_append_right _ h)) (by decide +kernel))
set_option maxRecDepth 20000 in
theorem gX6_strike_X6_refuseIfSettled : GoodIn wsX6_strike (wsV RX6 84 RX6 yX6_refuseIfSettled wsX6_refuseIfSettled) := goodIn_app (goodIn_of _ (by decide +kernel)) ggX6_strike_X6_refuseIfSettled
set_option maxRecDepth 20000 in
theorem ggX6_strike_X5_pledged : GoodIn wsX6_strike wsX5_pledged := goodIn_r _ [63, 64, 65, 66, 67, 12, 13, 14, 15, 16, 68, 18, 19, 20, 21, 22, 23, 24, 25, 26, 27, 28, 29, 30, 31, 32, 33, 102, 103, 104, 105, 106, 107, 108, 121, 122, 118, 119, 120] (by decide +kernel) (by decide +kernel)
set_option maxRecDepth 20000 in
theorem gX6_strike_X5_pledged : GoodIn wsX6_strike (wsV RX6 91 RX5 yX5_pledged wsX5_pledged) := goodIn_app (goodIn_of _ (by decide +kernel)) ggX6_strike_X5_pledged
set_option maxRecDepth 20000 in
theorem ggX6_strike_X6_sendPledgesBack : GoodIn wsX6_strike wsX6_sendPledgesBack := goodIn_r _ [73, 74, 57, 58, 59, 75, 76, 77, 78, 79, 80, 81, 11, 12, 13, 14, 15, 16, 17, 18, 19, 20, 21, 22, 23, 24, 25, 26, 27, 28, 29, 30, 31, 32, 33, 82, 83, 84, 5, 85, 86, 87, 88, 89, 90, 91, 92, 93, 94, 95, 96, 97, 98, 99, 100, 101, 102, 103, 104, 105, 106, 107, 108, 121, 122, 118, 119, 120, 123, 124, 109, 110, 111, 112, 113, 114, 115, 116, 117] (by decide +kernel) (by decide +kernel)
set_option maxRecDepth 20000 in
theorem gX6_strike_X6_sendPledgesBack : GoodIn wsX6_strike (wsV RX6 94 RX6 yX6_sendPledgesBack wsX6_sendPledgesBack) := goodIn_app (goodIn_of _ (by decide +kernel)) ggX6_strike_X6_sendPledgesBack
theorem dX6_strike_0 : decode cX6_strike 0 = .ok (.aload_n 0, 1) := by decide +kernel
theorem dX6_strike_1 : decode cX6_strike 1 = .ok (.iload_n 1, 1) := by decide +kernel
theorem dX6_strike_2 : decode cX6_strike 2 = .ok (.invokevirtual 74, 3) := by decide +kernel
theorem dX6_strike_5 : decode cX6_strike 5 = .ok (.astore_n 2, 1) := by decide +kernel
theorem dX6_strike_6 : decode cX6_strike 6 = .ok (.aload_n 0, 1) := by decide +kernel
theorem dX6_strike_7 : decode cX6_strike 7 = .ok (.aload_n 2, 1) := by decide +kernel
theorem dX6_strike_8 : decode cX6_strike 8 = .ok (.invokevirtual 84, 3) := by decide +kernel
theorem dX6_strike_11 : decode cX6_strike 11 = .ok (.aload_n 2, 1) := by decide +kernel
theorem dX6_strike_12 : decode cX6_strike 12 = .ok (.iconst 1, 1) := by decide +kernel
theorem dX6_strike_13 : decode cX6_strike 13 = .ok (.putfield 98, 3) := by decide +kernel
theorem dX6_strike_16 : decode cX6_strike 16 = .ok (.aload_n 0, 1) := by decide +kernel
theorem dX6_strike_17 : decode cX6_strike 17 = .ok (.aload_n 2, 1) := by decide +kernel
theorem dX6_strike_18 : decode cX6_strike 18 = .ok (.aload_n 2, 1) := by decide +kernel
theorem dX6_strike_19 : decode cX6_strike 19 = .ok (.invokevirtual 91, 3) := by decide +kernel
theorem dX6_strike_22 : decode cX6_strike 22 = .ok (.invokevirtual 94, 3) := by decide +kernel
theorem dX6_strike_25 : decode cX6_strike 25 = .ok (.ireturn, 1) := by decide +kernel
set_option maxRecDepth 20000 in
theorem ggX6_apart_X6_checkTill : GoodIn wsX6_apart wsX6_checkTill := goodIn_ca (goodIn_r _ [7, 8, 9] (by decide +kernel) (by decide +kernel)) (goodIn_sub (fun _ h => List.mem_cons_of_mem _ (List.mem_append_right _ h)) (by decide +kernel))
set_option maxRecDepth 20000 in
theorem gX6_apart_X6_checkTill : GoodIn wsX6_apart (va_wsS RX6 101 yX6_checkTill wsX6_checkTill) := goodIn_app (goodIn_of _ (by decide +kernel)) ggX6_apart_X6_checkTill
set_option maxRecDepth 20000 in
theorem ggX6_apart_X6_refuseIfCalledOff : GoodIn wsX6_apart wsX6_refuseIfCalledOff := goodIn_ca (goodIn_r _ [13, 1, 2, 14, 26, 27, 28, 29, 30, 31, 32, 33, 34] (by decide +kernel) (by decide +kernel)) (goodIn_sub (fun _ h => List.mem_cons_of_mem _ (List.mem_append_left _ (List.mem_append_right _ h))) (by decide +kernel))
set_option maxRecDepth 20000 in
theorem gX6_apart_X6_refuseIfCalledOff : GoodIn wsX6_apart (wsV RX6 44 RX6 yX6_refuseIfCalledOff wsX6_refuseIfCalledOff) := goodIn_app (goodIn_of _ (by decide +kernel)) ggX6_apart_X6_refuseIfCalledOff
set_option maxRecDepth 20000 in
theorem ggX6_apart_X6_isJoined : GoodIn wsX6_apart wsX6_isJoined := goodIn_r _ [18, 3, 26, 27, 28, 29, 30, 31, 32, 33, 34] (by decide +kernel) (by decide +kernel)
set_option maxRecDepth 20000 in
theorem gX6_apart_X6_isJoined : GoodIn wsX6_apart (wsV RX6 105 RX6 yX6_isJoined wsX6_isJoined) := goodIn_app (goodIn_of _ (by decide +kernel)) ggX6_apart_X6_isJoined
set_option maxRecDepth 20000 in
theorem ggX6_apart_J6_bitCount_0f7a4 : GoodIn wsX6_apart wsJ6_bitCount_0f7a4 := goodIn_r _ [22, 23, 24, 25] (by decide +kernel) (by decide +kernel)
set_option maxRecDepth 20000 in
theorem gX6_apart_J6_bitCount_0f7a4 : GoodIn wsX6_apart (va_wsS RX6 111 yJ6_bitCount_0f7a4 wsJ6_bitCount_0f7a4) := goodIn_app (goodIn_of _ (by decide +kernel)) ggX6_apart_J6_bitCount_0f7a4
theorem dX6_apart_0 : decode cX6_apart 0 = .ok (.iload_n 1, 1) := by decide +kernel
theorem dX6_apart_1 : decode cX6_apart 1 = .ok (.invokestatic 101, 3) := by decide +kernel
theorem dX6_apart_4 : decode cX6_apart 4 = .ok (.aload_n 0, 1) := by decide +kernel
theorem dX6_apart_5 : decode cX6_apart 5 = .ok (.invokevirtual 44, 3) := by decide +kernel
theorem dX6_apart_8 : decode cX6_apart 8 = .ok (.aload_n 0, 1) := by decide +kernel
theorem dX6_apart_9 : decode cX6_apart 9 = .ok (.iload_n 1, 1) := by decide +kernel
theorem dX6_apart_10 : decode cX6_apart 10 = .ok (.invokevirtual 105, 3) := by decide +kernel
theorem dX6_apart_13 : decode cX6_apart 13 = .ok (.ifCond .ne 13, 3) := by decide +kernel
theorem dX6_apart_16 : decode cX6_apart 16 = .ok (.new 51, 3) := by decide +kernel
theorem dX6_apart_19 : decode cX6_apart 19 = .ok (.dup, 1) := by decide +kernel
theorem dX6_apart_20 : decode cX6_apart 20 = .ok (.ldc 109, 2) := by decide +kernel
theorem dX6_apart_22 : decode cX6_apart 22 = .ok (.invokespecial 55, 3) := by decide +kernel
theorem dX6_apart_25 : decode cX6_apart 25 = .ok (.athrow, 1) := by decide +kernel
theorem dX6_apart_26 : decode cX6_apart 26 = .ok (.aload_n 0, 1) := by decide +kernel
theorem dX6_apart_27 : decode cX6_apart 27 = .ok (.dup, 1) := by decide +kernel
theorem dX6_apart_28 : decode cX6_apart 28 = .ok (.getfield 25, 3) := by decide +kernel
theorem dX6_apart_31 : decode cX6_apart 31 = .ok (.iconst 1, 1) := by decide +kernel
theorem dX6_apart_32 : decode cX6_apart 32 = .ok (.iload_n 1, 1) := by decide +kernel
theorem dX6_apart_33 : decode cX6_apart 33 = .ok (.ishl, 1) := by decide +kernel
theorem dX6_apart_34 : decode cX6_apart 34 = .ok (.iconst (-1), 1) := by decide +kernel
theorem dX6_apart_35 : decode cX6_apart 35 = .ok (.ixor, 1) := by decide +kernel
theorem dX6_apart_36 : decode cX6_apart 36 = .ok (.iand, 1) := by decide +kernel
theorem dX6_apart_37 : decode cX6_apart 37 = .ok (.putfield 25, 3) := by decide +kernel
theorem dX6_apart_40 : decode cX6_apart 40 = .ok (.aload_n 0, 1) := by decide +kernel
theorem dX6_apart_41 : decode cX6_apart 41 = .ok (.getfield 25, 3) := by decide +kernel
theorem dX6_apart_44 : decode cX6_apart 44 = .ok (.invokestatic 111, 3) := by decide +kernel
theorem dX6_apart_47 : decode cX6_apart 47 = .ok (.ireturn, 1) := by decide +kernel
set_option maxRecDepth 20000 in
theorem ggX6_join_X6_checkTill : GoodIn wsX6_join wsX6_checkTill := goodIn_ca (goodIn_r _ [9, 10, 11] (by decide +kernel) (by decide +kernel)) (goodIn_sub (fun _ h => List.mem_cons_of_mem _ (List.mem_append_right _ h)) (by decide +kernel))
set_option maxRecDepth 20000 in
theorem gX6_join_X6_checkTill : GoodIn wsX6_join (va_wsS RX6 101 yX6_checkTill wsX6_checkTill) := goodIn_app (goodIn_of _ (by decide +kernel)) ggX6_join_X6_checkTill
set_option maxRecDepth 20000 in
theorem ggX6_join_X6_refuseIfCalledOff : GoodIn wsX6_join wsX6_refuseIfCalledOff := goodIn_ca (goodIn_r _ [15, 1, 2, 16, 118, 119, 120, 121, 122, 123, 124, 125, 126] (by decide +kernel) (by decide +kernel)) (goodIn_sub (fun _ h => List.mem_cons_of_mem _ (List.mem_append_left _ (List.mem_append_right _ h))) (by decide +kernel))
set_option maxRecDepth 20000 in
theorem gX6_join_X6_refuseIfCalledOff : GoodIn wsX6_join (wsV RX6 44 RX6 yX6_refuseIfCalledOff wsX6_refuseIfCalledOff) := goodIn_app (goodIn_of _ (by decide +kernel)) ggX6_join_X6_refuseIfCalledOff
set_option maxRecDepth 20000 in
theorem ggX6_join_X6_isJoined : GoodIn wsX6_join wsX6_isJoined := goodIn_r _ [20, 3, 118, 119, 120, 121, 122, 123, 124, 125, 126] (by decide +kernel) (by decide +kernel)
set_option maxRecDepth 20000 in
theorem gX6_join_X6_isJoined : GoodIn wsX6_join (wsV RX6 105 RX6 yX6_isJoined wsX6_isJoined) := goodIn_app (goodIn_of _ (by decide +kernel)) ggX6_join_X6_isJoined
set_option maxRecDepth 20000 in
theorem ggX6_join_X6_showAllDeeds : GoodIn wsX6_join wsX6_showAllDeeds := goodIn_r _ [24, 25, 26, 3, 27, 28, 29, 30, 31, 32, 33, 34, 35, 36, 37, 38, 39, 40, 41, 42, 43, 44, 45, 46, 47, 48, 49, 50, 51, 52, 53, 54, 55, 56, 57, 58, 59, 60, 61, 62, 63, 118, 119, 120, 121, 122, 123, 124, 125, 126, 127, 128, 129, 130, 131, 132, 133, 134, 135, 136, 137, 138, 139, 140, 141, 142, 143, 144, 145, 146] (by decide +kernel) (by decide +kernel)
set_option maxRecDepth 20000 in
theorem gX6_join_X6_showAllDeeds : GoodIn wsX6_join (wsV RX6 119 RX6 yX6_showAllDeeds wsX6_showAllDeeds) := goodIn_app (goodIn_of _ (by decide +kernel)) ggX6_join_X6_showAllDeeds
set_option maxRecDepth 20000 in
theorem ggX6_join_Jx4a65c_size_8abf5 : GoodIn wsX6_join wsJx4a65c_size_8abf5 := goodIn_r _ [33, 34, 127, 128, 129] (by decide +kernel) (by decide +kernel)
set_option maxRecDepth 20000 in
theorem gX6_join_Jx4a65c_size_8abf5 : GoodIn wsX6_join (wsV RX6 47 RJx4a65c yJx4a65c_size_8abf5 wsJx4a65c_size_8abf5) := goodIn_app (goodIn_of _ (by decide +kernel)) ggX6_join_Jx4a65c_size_8abf5
set_option maxRecDepth 20000 in
theorem ggX6_join_Jx4a65c_get_915e3 : GoodIn wsX6_join wsJx4a65c_get_915e3 := goodIn_r _ [38, 34, 39, 40, 41, 42, 43, 44, 45, 46, 47, 48, 49, 32, 50, 51, 127, 128, 129] (by decide +kernel) (by decide +kernel)
set_option maxRecDepth 20000 in
theorem gX6_join_Jx4a65c_get_915e3 : GoodIn wsX6_join (wsV RX6 122 RJx4a65c yJx4a65c_get_915e3 wsJx4a65c_get_915e3) := goodIn_app (goodIn_of _ (by decide +kernel)) ggX6_join_Jx4a65c_get_915e3
set_option maxRecDepth 20000 in
theorem ggX6_join_X6_takeBackTooMany : GoodIn wsX6_join wsX6_takeBackTooMany := goodIn_r _ [67, 68, 69, 70, 8, 71, 25, 26, 72, 73, 74, 75, 76, 77, 78, 79, 80, 29, 30, 31, 32, 33, 34, 35, 36, 37, 38, 39, 40, 41, 42, 43, 44, 45, 46, 47, 48, 49, 50, 51, 81, 82, 83, 84, 85, 86, 87, 88, 89, 90, 56, 91, 59, 92, 93, 94, 95, 96, 97, 98, 99, 100, 101, 102, 103, 104, 105, 106, 107, 108, 109, 110, 111, 112, 113, 114, 115, 116, 117, 118, 119, 120, 121, 122, 123, 124, 125, 126, 130, 131, 132, 133, 134, 135, 136, 137, 138, 139, 140, 141, 142, 143, 144, 145, 146, 147, 148, 149, 150, 151, 152, 153, 127, 128, 129, 154, 155] (by decide +kernel) (by decide +kernel)
set_option maxRecDepth 20000 in
theorem gX6_join_X6_takeBackTooMany : GoodIn wsX6_join (wsV RX6 126 RX6 yX6_takeBackTooMany wsX6_takeBackTooMany) := goodIn_app (goodIn_of _ (by decide +kernel)) ggX6_join_X6_takeBackTooMany
theorem dX6_join_0 : decode cX6_join 0 = .ok (.iload_n 1, 1) := by decide +kernel
theorem dX6_join_1 : decode cX6_join 1 = .ok (.invokestatic 101, 3) := by decide +kernel
theorem dX6_join_4 : decode cX6_join 4 = .ok (.aload_n 0, 1) := by decide +kernel
theorem dX6_join_5 : decode cX6_join 5 = .ok (.invokevirtual 44, 3) := by decide +kernel
theorem dX6_join_8 : decode cX6_join 8 = .ok (.aload_n 0, 1) := by decide +kernel
theorem dX6_join_9 : decode cX6_join 9 = .ok (.iload_n 1, 1) := by decide +kernel
theorem dX6_join_10 : decode cX6_join 10 = .ok (.invokevirtual 105, 3) := by decide +kernel
theorem dX6_join_13 : decode cX6_join 13 = .ok (.ifCond .eq 13, 3) := by decide +kernel
theorem dX6_join_16 : decode cX6_join 16 = .ok (.new 51, 3) := by decide +kernel
theorem dX6_join_19 : decode cX6_join 19 = .ok (.dup, 1) := by decide +kernel
theorem dX6_join_20 : decode cX6_join 20 = .ok (.ldc 117, 2) := by decide +kernel
theorem dX6_join_22 : decode cX6_join 22 = .ok (.invokespecial 55, 3) := by decide +kernel
theorem dX6_join_25 : decode cX6_join 25 = .ok (.athrow, 1) := by decide +kernel
theorem dX6_join_26 : decode cX6_join 26 = .ok (.aload_n 0, 1) := by decide +kernel
theorem dX6_join_27 : decode cX6_join 27 = .ok (.dup, 1) := by decide +kernel
theorem dX6_join_28 : decode cX6_join 28 = .ok (.getfield 25, 3) := by decide +kernel
theorem dX6_join_31 : decode cX6_join 31 = .ok (.iconst 1, 1) := by decide +kernel
theorem dX6_join_32 : decode cX6_join 32 = .ok (.iload_n 1, 1) := by decide +kernel
theorem dX6_join_33 : decode cX6_join 33 = .ok (.ishl, 1) := by decide +kernel
theorem dX6_join_34 : decode cX6_join 34 = .ok (.ior, 1) := by decide +kernel
theorem dX6_join_35 : decode cX6_join 35 = .ok (.putfield 25, 3) := by decide +kernel
theorem dX6_join_38 : decode cX6_join 38 = .ok (.aload_n 0, 1) := by decide +kernel
theorem dX6_join_39 : decode cX6_join 39 = .ok (.invokevirtual 119, 3) := by decide +kernel
theorem dX6_join_42 : decode cX6_join 42 = .ok (.iconst 0, 1) := by decide +kernel
theorem dX6_join_43 : decode cX6_join 43 = .ok (.istore_n 2, 1) := by decide +kernel
theorem dX6_join_44 : decode cX6_join 44 = .ok (.iconst 0, 1) := by decide +kernel
theorem dX6_join_45 : decode cX6_join 45 = .ok (.istore_n 3, 1) := by decide +kernel
theorem dX6_join_46 : decode cX6_join 46 = .ok (.iload_n 3, 1) := by decide +kernel
theorem dX6_join_47 : decode cX6_join 47 = .ok (.aload_n 0, 1) := by decide +kernel
theorem dX6_join_48 : decode cX6_join 48 = .ok (.getfield 12, 3) := by decide +kernel
theorem dX6_join_51 : decode cX6_join 51 = .ok (.invokevirtual 47, 3) := by decide +kernel
theorem dX6_join_54 : decode cX6_join 54 = .ok (.if_icmp .ge 28, 3) := by decide +kernel
theorem dX6_join_57 : decode cX6_join 57 = .ok (.iload_n 2, 1) := by decide +kernel
theorem dX6_join_58 : decode cX6_join 58 = .ok (.aload_n 0, 1) := by decide +kernel
theorem dX6_join_59 : decode cX6_join 59 = .ok (.aload_n 0, 1) := by decide +kernel
theorem dX6_join_60 : decode cX6_join 60 = .ok (.getfield 12, 3) := by decide +kernel
theorem dX6_join_63 : decode cX6_join 63 = .ok (.iload_n 3, 1) := by decide +kernel
theorem dX6_join_64 : decode cX6_join 64 = .ok (.invokevirtual 122, 3) := by decide +kernel
theorem dX6_join_67 : decode cX6_join 67 = .ok (.checkcast 56, 3) := by decide +kernel
theorem dX6_join_70 : decode cX6_join 70 = .ok (.iload_n 1, 1) := by decide +kernel
theorem dX6_join_71 : decode cX6_join 71 = .ok (.invokevirtual 126, 3) := by decide +kernel
theorem dX6_join_74 : decode cX6_join 74 = .ok (.iadd, 1) := by decide +kernel
theorem dX6_join_75 : decode cX6_join 75 = .ok (.istore_n 2, 1) := by decide +kernel
theorem dX6_join_76 : decode cX6_join 76 = .ok (.iinc 3 1, 3) := by decide +kernel
theorem dX6_join_79 : decode cX6_join 79 = .ok (.goto (-33), 3) := by decide +kernel
theorem dX6_join_82 : decode cX6_join 82 = .ok (.iload_n 2, 1) := by decide +kernel
theorem dX6_join_83 : decode cX6_join 83 = .ok (.ireturn, 1) := by decide +kernel
set_option maxRecDepth 20000 in
theorem ggX6_hold_X6_checkTill : GoodIn wsX6_hold wsX6_checkTill := goodIn_ca (goodIn_r _ [14, 15, 16] (by decide +kernel) (by decide +kernel)) (goodIn_sub (fun _ h => List.mem_cons_of_mem _ (List.mem_append_right _ h)) (by decide +kernel))
set_option maxRecDepth 20000 in
theorem gX6_hold_X6_checkTill : GoodIn wsX6_hold (va_wsS RX6 101 yX6_checkTill wsX6_checkTill) := goodIn_app (goodIn_of _ (by decide +kernel)) ggX6_hold_X6_checkTill
set_option maxRecDepth 20000 in
theorem ggX6_hold_X6_guestNumbered : GoodIn wsX6_hold wsX6_guestNumbered := goodIn_ca (goodIn_r _ [20, 15, 16, 21, 22, 23, 24, 25, 26, 27, 28, 29, 30, 31, 32, 33, 34, 35, 36, 37, 38, 39, 40, 41, 42, 43, 44, 45, 174, 175, 176, 177, 178, 179, 180, 181, 182, 191, 192, 193] (by decide +kernel) (by decide +kernel)) (goodIn_sub (fun _ h => List.mem_cons_of_mem _ (List.mem_append_right _ h)) (by decide +kernel))
set_option maxRecDepth 20000 in
theorem gX6_hold_X6_guestNumbered : GoodIn wsX6_hold (wsV RX6 129 RX6 yX6_guestNumbered wsX6_guestNumbered) := goodIn_app (goodIn_of _ (by decide +kernel)) ggX6_hold_X6_guestNumbered
set_option maxRecDepth 20000 in
theorem ggX6_hold_X6_wishNumbered : GoodIn wsX6_hold wsX6_wishNumbered := goodIn_ca (goodIn_r _ [49, 15, 16, 50, 51, 23, 24, 25, 26, 27, 28, 29, 30, 31, 32, 33, 34, 35, 36, 37, 38, 39, 40, 41, 42, 43, 44, 45, 174, 175, 176, 177, 178, 179, 180, 181, 182, 191, 192, 193] (by decide +kernel) (by decide +kernel)) (goodIn_sub (fun _ h => List.mem_cons_of_mem _ (List.mem_append_right _ h)) (by decide +kernel))
set_option maxRecDepth 20000 in
theorem gX6_hold_X6_wishNumbered : GoodIn wsX6_hold (wsV RX6 74 RX6 yX6_wishNumbered wsX6_wishNumbered) := goodIn_app (goodIn_of _ (by decide +kernel)) ggX6_hold_X6_wishNumbered
set_option maxRecDepth 20000 in
theorem ggX6_hold_X6_refuseIfCalledOff : GoodIn wsX6_hold wsX6_refuseIfCalledOff := goodIn_ca (goodIn_r _ [55, 3, 4, 56, 174, 175, 176, 177, 178, 179, 180, 181, 182] (by decide +kernel) (by decide +kernel)) (goodIn_sub (fun _ h => List.mem_cons_of_mem _ (List.mem_append_left _ (List.mem_append_right _ h))) (by decide +kernel))
set_option maxRecDepth 20000 in
theorem gX6_hold_X6_refuseIfCalledOff : GoodIn wsX6_hold (wsV RX6 44 RX6 yX6_refuseIfCalledOff wsX6_refuseIfCalledOff) := goodIn_app (goodIn_of _ (by decide +kernel)) ggX6_hold_X6_refuseIfCalledOff
set_option maxRecDepth 20000 in
theorem ggX6_hold_Jx4a65c_size_8abf5 : GoodIn wsX6_hold wsJx4a65c_size_8abf5 := goodIn_r _ [27, 28, 191, 192, 193] (by decide +kernel) (by decide +kernel)
set_option maxRecDepth 20000 in
theorem gX6_hold_Jx4a65c_size_8abf5 : GoodIn wsX6_hold (wsV RX6 47 RJx4a65c yJx4a65c_size_8abf5 wsJx4a65c_size_8abf5) := goodIn_app (goodIn_of _ (by decide +kernel)) ggX6_hold_Jx4a65c_size_8abf5
set_option maxRecDepth 20000 in
theorem ggX6_hold_X6_leftAt : GoodIn wsX6_hold wsX6_leftAt := goodIn_r _ [60, 61, 62, 63, 5, 64, 65, 66, 9, 67, 68, 69, 70, 71, 72, 73, 13, 74, 75, 76, 77, 78, 23, 24, 25, 26, 27, 28, 29, 30, 31, 32, 33, 34, 35, 36, 37, 38, 39, 40, 41, 42, 43, 44, 45, 79, 80, 81, 82, 83, 84, 85, 86, 87, 88, 89, 90, 91, 92, 93, 94, 8, 95, 96, 97, 98, 99, 100, 101, 102, 103, 104, 194, 195, 196, 197, 198, 199, 200, 174, 175, 176, 177, 178, 179, 180, 181, 182, 201, 202, 203, 204, 205, 206, 207, 208, 209, 183, 184, 185, 186, 187, 188, 189, 190, 191, 192, 193] (by decide +kernel) (by decide +kernel)
set_option maxRecDepth 20000 in
theorem gX6_hold_X6_leftAt : GoodIn wsX6_hold (wsV RX6 137 RX6 yX6_leftAt wsX6_leftAt) := goodIn_app (goodIn_of _ (by decide +kernel)) ggX6_hold_X6_leftAt
set_option maxRecDepth 20000 in
theorem ggX6_hold_X3_init : GoodIn wsX6_hold wsX3_init := goodIn_r _ [107, 101, 108, 109, 89, 110, 111, 112, 113, 114, 115, 116, 117, 91, 183, 184, 185, 186, 187, 188, 189, 190, 201, 202, 203, 204, 205, 206, 207, 208, 209] (by decide +kernel) (by decide +kernel)
set_option maxRecDepth 20000 in
theorem gX6_hold_X3_init : GoodIn wsX6_hold (wsX3_init) := ggX6_hold_X3_init
set_option maxRecDepth 20000 in
theorem ggX6_hold_X0_showTo : GoodIn wsX6_hold wsX0_showTo := goodIn_r _ [122, 116, 123, 91, 201, 202, 203, 204, 205, 206, 207, 208, 209, 183, 184, 185, 186, 187, 188, 189, 190] (by decide +kernel) (by decide +kernel)
set_option maxRecDepth 20000 in
theorem gX6_hold_X0_showTo_u151X3 : GoodIn wsX6_hold (va_wsU RX6 151 RX3 "Tureenlist$Deed" ⟨"Tureenlist$Hold", "showTo", "(I)V"⟩ yX0_showTo wsX0_showTo) := goodIn_app (goodIn_of _ (by decide +kernel)) ggX6_hold_X0_showTo
set_option maxRecDepth 20000 in
theorem ggX6_hold_Jx4a65c_add_9ea2d : GoodIn wsX6_hold wsJx4a65c_add_9ea2d := goodIn_r _ [127, 128, 129, 45, 28, 130, 131, 132, 26, 133, 134, 135, 136, 137, 138, 139, 140, 141, 142, 143, 68, 69, 70, 144, 145, 146, 147, 148, 149, 150, 151, 152, 153, 154, 155, 156, 157, 158, 159, 160, 161, 162, 163, 164, 165, 166, 167, 168, 169, 170, 171, 172, 173, 191, 192, 193] (by decide +kernel) (by decide +kernel)
set_option maxRecDepth 20000 in
theorem gX6_hold_Jx4a65c_add_9ea2d : GoodIn wsX6_hold (wsV RX6 61 RJx4a65c yJx4a65c_add_9ea2d wsJx4a65c_add_9ea2d) := goodIn_app (goodIn_of _ (by decide +kernel)) ggX6_hold_Jx4a65c_add_9ea2d
theorem dX6_hold_0 : decode cX6_hold 0 = .ok (.iload_n 1, 1) := by decide +kernel
theorem dX6_hold_1 : decode cX6_hold 1 = .ok (.invokestatic 101, 3) := by decide +kernel
theorem dX6_hold_4 : decode cX6_hold 4 = .ok (.aload_n 0, 1) := by decide +kernel
theorem dX6_hold_5 : decode cX6_hold 5 = .ok (.iload_n 2, 1) := by decide +kernel
theorem dX6_hold_6 : decode cX6_hold 6 = .ok (.invokevirtual 129, 3) := by decide +kernel
theorem dX6_hold_9 : decode cX6_hold 9 = .ok (.astore 5, 2) := by decide +kernel
theorem dX6_hold_11 : decode cX6_hold 11 = .ok (.aload_n 0, 1) := by decide +kernel
theorem dX6_hold_12 : decode cX6_hold 12 = .ok (.iload_n 3, 1) := by decide +kernel
theorem dX6_hold_13 : decode cX6_hold 13 = .ok (.invokevirtual 74, 3) := by decide +kernel
theorem dX6_hold_16 : decode cX6_hold 16 = .ok (.astore 6, 2) := by decide +kernel
theorem dX6_hold_18 : decode cX6_hold 18 = .ok (.iload 4, 2) := by decide +kernel
theorem dX6_hold_20 : decode cX6_hold 20 = .ok (.iconst 1, 1) := by decide +kernel
theorem dX6_hold_21 : decode cX6_hold 21 = .ok (.if_icmp .lt 10, 3) := by decide +kernel
theorem dX6_hold_24 : decode cX6_hold 24 = .ok (.iload 4, 2) := by decide +kernel
theorem dX6_hold_26 : decode cX6_hold 26 = .ok (.bipush 60, 2) := by decide +kernel
theorem dX6_hold_28 : decode cX6_hold 28 = .ok (.if_icmp .le 13, 3) := by decide +kernel
theorem dX6_hold_31 : decode cX6_hold 31 = .ok (.new 29, 3) := by decide +kernel
theorem dX6_hold_34 : decode cX6_hold 34 = .ok (.dup, 1) := by decide +kernel
theorem dX6_hold_35 : decode cX6_hold 35 = .ok (.ldc 133, 2) := by decide +kernel
theorem dX6_hold_37 : decode cX6_hold 37 = .ok (.invokespecial 33, 3) := by decide +kernel
theorem dX6_hold_40 : decode cX6_hold 40 = .ok (.athrow, 1) := by decide +kernel
theorem dX6_hold_41 : decode cX6_hold 41 = .ok (.aload_n 0, 1) := by decide +kernel
theorem dX6_hold_42 : decode cX6_hold 42 = .ok (.invokevirtual 44, 3) := by decide +kernel
theorem dX6_hold_45 : decode cX6_hold 45 = .ok (.aload_n 0, 1) := by decide +kernel
theorem dX6_hold_46 : decode cX6_hold 46 = .ok (.getfield 22, 3) := by decide +kernel
theorem dX6_hold_49 : decode cX6_hold 49 = .ok (.invokevirtual 47, 3) := by decide +kernel
theorem dX6_hold_52 : decode cX6_hold 52 = .ok (.istore 7, 2) := by decide +kernel
theorem dX6_hold_54 : decode cX6_hold 54 = .ok (.iload 7, 2) := by decide +kernel
theorem dX6_hold_56 : decode cX6_hold 56 = .ok (.bipush 20, 2) := by decide +kernel
theorem dX6_hold_58 : decode cX6_hold 58 = .ok (.if_icmp .lt 13, 3) := by decide +kernel
theorem dX6_hold_61 : decode cX6_hold 61 = .ok (.new 51, 3) := by decide +kernel
theorem dX6_hold_64 : decode cX6_hold 64 = .ok (.dup, 1) := by decide +kernel
theorem dX6_hold_65 : decode cX6_hold 65 = .ok (.ldc 135, 2) := by decide +kernel
theorem dX6_hold_67 : decode cX6_hold 67 = .ok (.invokespecial 55, 3) := by decide +kernel
theorem dX6_hold_70 : decode cX6_hold 70 = .ok (.athrow, 1) := by decide +kernel
theorem dX6_hold_71 : decode cX6_hold 71 = .ok (.aload_n 0, 1) := by decide +kernel
theorem dX6_hold_72 : decode cX6_hold 72 = .ok (.iload_n 1, 1) := by decide +kernel
theorem dX6_hold_73 : decode cX6_hold 73 = .ok (.aload 6, 2) := by decide +kernel
theorem dX6_hold_75 : decode cX6_hold 75 = .ok (.invokevirtual 137, 3) := by decide +kernel
theorem dX6_hold_78 : decode cX6_hold 78 = .ok (.ifCond .ne 13, 3) := by decide +kernel
theorem dX6_hold_81 : decode cX6_hold 81 = .ok (.new 51, 3) := by decide +kernel
theorem dX6_hold_84 : decode cX6_hold 84 = .ok (.dup, 1) := by decide +kernel
theorem dX6_hold_85 : decode cX6_hold 85 = .ok (.ldc 141, 2) := by decide +kernel
theorem dX6_hold_87 : decode cX6_hold 87 = .ok (.invokespecial 55, 3) := by decide +kernel
theorem dX6_hold_90 : decode cX6_hold 90 = .ok (.athrow, 1) := by decide +kernel
theorem dX6_hold_91 : decode cX6_hold 91 = .ok (.new 143, 3) := by decide +kernel
theorem dX6_hold_94 : decode cX6_hold 94 = .ok (.dup, 1) := by decide +kernel
theorem dX6_hold_95 : decode cX6_hold 95 = .ok (.aload 6, 2) := by decide +kernel
theorem dX6_hold_97 : decode cX6_hold 97 = .ok (.aload 5, 2) := by decide +kernel
theorem dX6_hold_99 : decode cX6_hold 99 = .ok (.iload_n 1, 1) := by decide +kernel
theorem dX6_hold_100 : decode cX6_hold 100 = .ok (.aload_n 0, 1) := by decide +kernel
theorem dX6_hold_101 : decode cX6_hold 101 = .ok (.getfield 145, 3) := by decide +kernel
theorem dX6_hold_104 : decode cX6_hold 104 = .ok (.iload 4, 2) := by decide +kernel
theorem dX6_hold_106 : decode cX6_hold 106 = .ok (.invokespecial 148, 3) := by decide +kernel
theorem dX6_hold_109 : decode cX6_hold 109 = .ok (.astore 8, 2) := by decide +kernel
theorem dX6_hold_111 : decode cX6_hold 111 = .ok (.aload 8, 2) := by decide +kernel
theorem dX6_hold_113 : decode cX6_hold 113 = .ok (.aload_n 0, 1) := by decide +kernel
theorem dX6_hold_114 : decode cX6_hold 114 = .ok (.getfield 25, 3) := by decide +kernel
theorem dX6_hold_117 : decode cX6_hold 117 = .ok (.invokevirtual 151, 3) := by decide +kernel
theorem dX6_hold_120 : decode cX6_hold 120 = .ok (.aload_n 0, 1) := by decide +kernel
theorem dX6_hold_121 : decode cX6_hold 121 = .ok (.getfield 22, 3) := by decide +kernel
theorem dX6_hold_124 : decode cX6_hold 124 = .ok (.aload 8, 2) := by decide +kernel
theorem dX6_hold_126 : decode cX6_hold 126 = .ok (.invokevirtual 61, 3) := by decide +kernel
theorem dX6_hold_129 : decode cX6_hold 129 = .ok (.pop, 1) := by decide +kernel
theorem dX6_hold_130 : decode cX6_hold 130 = .ok (.iload 7, 2) := by decide +kernel
theorem dX6_hold_132 : decode cX6_hold 132 = .ok (.ireturn, 1) := by decide +kernel
set_option maxRecDepth 20000 in
theorem ggX6_buy_X6_checkTill : GoodIn wsX6_buy wsX6_checkTill := goodIn_ca (goodIn_r _ [16, 17, 18] (by decide +kernel) (by decide +kernel)) (goodIn_sub (fun _ h => List.mem_cons_of_mem _ (List.mem_append_right _ h)) (by decide +kernel))
set_option maxRecDepth 20000 in
theorem gX6_buy_X6_checkTill : GoodIn wsX6_buy (va_wsS RX6 101 yX6_checkTill wsX6_checkTill) := goodIn_app (goodIn_of _ (by decide +kernel)) ggX6_buy_X6_checkTill
set_option maxRecDepth 20000 in
theorem ggX6_buy_X6_guestNumbered : GoodIn wsX6_buy wsX6_guestNumbered := goodIn_ca (goodIn_r _ [22, 17, 18, 23, 24, 25, 26, 27, 28, 29, 30, 31, 32, 33, 34, 35, 36, 37, 38, 39, 40, 41, 42, 43, 44, 45, 46, 47, 199, 200, 201, 202, 203, 204, 205, 206, 207, 219, 220, 221] (by decide +kernel) (by decide +kernel)) (goodIn_sub (fun _ h => List.mem_cons_of_mem _ (List.mem_append_right _ h)) (by decide +kernel))
set_option maxRecDepth 20000 in
theorem gX6_buy_X6_guestNumbered : GoodIn wsX6_buy (wsV RX6 129 RX6 yX6_guestNumbered wsX6_guestNumbered) := goodIn_app (goodIn_of _ (by decide +kernel)) ggX6_buy_X6_guestNumbered
set_option maxRecDepth 20000 in
theorem ggX6_buy_X6_wishNumbered : GoodIn wsX6_buy wsX6_wishNumbered := goodIn_ca (goodIn_r _ [51, 17, 18, 52, 53, 25, 26, 27, 28, 29, 30, 31, 32, 33, 34, 35, 36, 37, 38, 39, 40, 41, 42, 43, 44, 45, 46, 47, 199, 200, 201, 202, 203, 204, 205, 206, 207, 219, 220, 221] (by decide +kernel) (by decide +kernel)) (goodIn_sub (fun _ h => List.mem_cons_of_mem _ (List.mem_append_right _ h)) (by decide +kernel))
set_option maxRecDepth 20000 in
theorem gX6_buy_X6_wishNumbered : GoodIn wsX6_buy (wsV RX6 74 RX6 yX6_wishNumbered wsX6_wishNumbered) := goodIn_app (goodIn_of _ (by decide +kernel)) ggX6_buy_X6_wishNumbered
set_option maxRecDepth 20000 in
theorem ggX6_buy_X6_refuseIfCalledOff : GoodIn wsX6_buy wsX6_refuseIfCalledOff := goodIn_ca (goodIn_r _ [57, 1, 2, 58, 199, 200, 201, 202, 203, 204, 205, 206, 207] (by decide +kernel) (by decide +kernel)) (goodIn_sub (fun _ h => List.mem_cons_of_mem _ (List.mem_append_left _ (List.mem_append_right _ h))) (by decide +kernel))
set_option maxRecDepth 20000 in
theorem gX6_buy_X6_refuseIfCalledOff : GoodIn wsX6_buy (wsV RX6 44 RX6 yX6_refuseIfCalledOff wsX6_refuseIfCalledOff) := goodIn_app (goodIn_of _ (by decide +kernel)) ggX6_buy_X6_refuseIfCalledOff
set_option maxRecDepth 20000 in
theorem ggX6_buy_Jx4a65c_size_8abf5 : GoodIn wsX6_buy wsJx4a65c_size_8abf5 := goodIn_r _ [29, 30, 219, 220, 221] (by decide +kernel) (by decide +kernel)
set_option maxRecDepth 20000 in
theorem gX6_buy_Jx4a65c_size_8abf5 : GoodIn wsX6_buy (wsV RX6 47 RJx4a65c yJx4a65c_size_8abf5 wsJx4a65c_size_8abf5) := goodIn_app (goodIn_of _ (by decide +kernel)) ggX6_buy_Jx4a65c_size_8abf5
set_option maxRecDepth 20000 in
theorem ggX6_buy_X6_takePiece : GoodIn wsX6_buy wsX6_takePiece := goodIn_ca (goodIn_r _ [62, 1, 2, 63, 64, 65, 66, 67, 68, 15, 69, 70, 71, 72, 73, 74, 11, 75, 76, 77, 78, 5, 79, 80, 81, 25, 26, 27, 28, 29, 30, 31, 32, 33, 34, 35, 36, 37, 38, 39, 40, 41, 42, 43, 44, 45, 46, 47, 82, 83, 84, 10, 85, 86, 87, 88, 89, 90, 91, 92, 93, 94, 95, 96, 97, 98, 99, 100, 101, 102, 103, 104, 105, 106, 107, 108, 109, 110, 111, 3, 4, 112, 113, 114, 115, 199, 200, 201, 202, 203, 204, 205, 206, 207, 222, 223, 224, 225, 226, 227, 228, 229, 192, 193, 194, 195, 196, 197, 198, 210, 211, 212, 213, 214, 215, 216, 217, 218, 219, 220, 221] (by decide +kernel) (by decide +kernel)) (goodIn_sub (fun _ h => List.mem_cons_of_mem _ (List.mem_append_left _ (List.mem_append_right _ h))) (by decide +kernel))
set_option maxRecDepth 20000 in
theorem gX6_buy_X6_takePiece : GoodIn wsX6_buy (wsV RX6 163 RX6 yX6_takePiece wsX6_takePiece) := goodIn_app (goodIn_of _ (by decide +kernel)) ggX6_buy_X6_takePiece
set_option maxRecDepth 20000 in
theorem ggX6_buy_X6_pay : GoodIn wsX6_buy wsX6_pay := goodIn_r _ [119, 6, 120, 208, 209, 199, 200, 201, 202, 203, 204, 205, 206, 207] (by decide +kernel) (by decide +kernel)
set_option maxRecDepth 20000 in
theorem gX6_buy_X6_pay : GoodIn wsX6_buy (wsV RX6 167 RX6 yX6_pay wsX6_pay) := goodIn_app (goodIn_of _ (by decide +kernel)) ggX6_buy_X6_pay
set_option maxRecDepth 20000 in
theorem ggX6_buy_X1_init : GoodIn wsX6_buy wsX1_init := goodIn_r _ [123, 124, 125, 86, 126, 127, 91, 128, 129, 130, 131, 132, 133, 134, 135, 93, 210, 211, 212, 213, 214, 215, 216, 217, 218, 222, 223, 224, 225, 226, 227, 228, 229] (by decide +kernel) (by decide +kernel)
set_option maxRecDepth 20000 in
theorem gX6_buy_X1_init : GoodIn wsX6_buy (wsX1_init) := ggX6_buy_X1_init
set_option maxRecDepth 20000 in
theorem ggX6_buy_X0_showTo : GoodIn wsX6_buy wsX0_showTo := goodIn_r _ [140, 134, 141, 93, 210, 211, 212, 213, 214, 215, 216, 217, 218, 222, 223, 224, 225, 226, 227, 228, 229] (by decide +kernel) (by decide +kernel)
set_option maxRecDepth 20000 in
theorem gX6_buy_X0_showTo_u176X1 : GoodIn wsX6_buy (va_wsU RX6 176 RX1 "Tureenlist$Deed" ⟨"Tureenlist$Gift", "showTo", "(I)V"⟩ yX0_showTo wsX0_showTo) := goodIn_app (goodIn_of _ (by decide +kernel)) ggX6_buy_X0_showTo
set_option maxRecDepth 20000 in
theorem ggX6_buy_Jx4a65c_add_9ea2d : GoodIn wsX6_buy wsJx4a65c_add_9ea2d := goodIn_r _ [145, 146, 147, 47, 30, 148, 149, 150, 28, 151, 152, 153, 154, 155, 156, 157, 158, 159, 160, 161, 113, 114, 115, 162, 163, 164, 165, 166, 167, 168, 169, 170, 171, 172, 173, 174, 175, 176, 177, 178, 179, 180, 181, 182, 183, 184, 185, 186, 187, 188, 189, 190, 191, 219, 220, 221] (by decide +kernel) (by decide +kernel)
set_option maxRecDepth 20000 in
theorem gX6_buy_Jx4a65c_add_9ea2d : GoodIn wsX6_buy (wsV RX6 61 RJx4a65c yJx4a65c_add_9ea2d wsJx4a65c_add_9ea2d) := goodIn_app (goodIn_of _ (by decide +kernel)) ggX6_buy_Jx4a65c_add_9ea2d
theorem dX6_buy_0 : decode cX6_buy 0 = .ok (.iload_n 1, 1) := by decide +kernel
theorem dX6_buy_1 : decode cX6_buy 1 = .ok (.invokestatic 101, 3) := by decide +kernel
theorem dX6_buy_4 : decode cX6_buy 4 = .ok (.aload_n 0, 1) := by decide +kernel
theorem dX6_buy_5 : decode cX6_buy 5 = .ok (.iload_n 2, 1) := by decide +kernel
theorem dX6_buy_6 : decode cX6_buy 6 = .ok (.invokevirtual 129, 3) := by decide +kernel
theorem dX6_buy_9 : decode cX6_buy 9 = .ok (.astore 4, 2) := by decide +kernel
theorem dX6_buy_11 : decode cX6_buy 11 = .ok (.aload_n 0, 1) := by decide +kernel
theorem dX6_buy_12 : decode cX6_buy 12 = .ok (.iload_n 3, 1) := by decide +kernel
theorem dX6_buy_13 : decode cX6_buy 13 = .ok (.invokevirtual 74, 3) := by decide +kernel
theorem dX6_buy_16 : decode cX6_buy 16 = .ok (.astore 5, 2) := by decide +kernel
theorem dX6_buy_18 : decode cX6_buy 18 = .ok (.aload_n 0, 1) := by decide +kernel
theorem dX6_buy_19 : decode cX6_buy 19 = .ok (.invokevirtual 44, 3) := by decide +kernel
theorem dX6_buy_22 : decode cX6_buy 22 = .ok (.aload 5, 2) := by decide +kernel
theorem dX6_buy_24 : decode cX6_buy 24 = .ok (.getfield 78, 3) := by decide +kernel
theorem dX6_buy_27 : decode cX6_buy 27 = .ok (.ifCond .ne 11, 3) := by decide +kernel
theorem dX6_buy_30 : decode cX6_buy 30 = .ok (.aload 5, 2) := by decide +kernel
theorem dX6_buy_32 : decode cX6_buy 32 = .ok (.getfield 98, 3) := by decide +kernel
theorem dX6_buy_35 : decode cX6_buy 35 = .ok (.ifCond .eq 13, 3) := by decide +kernel
theorem dX6_buy_38 : decode cX6_buy 38 = .ok (.new 51, 3) := by decide +kernel
theorem dX6_buy_41 : decode cX6_buy 41 = .ok (.dup, 1) := by decide +kernel
theorem dX6_buy_42 : decode cX6_buy 42 = .ok (.ldc 154, 2) := by decide +kernel
theorem dX6_buy_44 : decode cX6_buy 44 = .ok (.invokespecial 55, 3) := by decide +kernel
theorem dX6_buy_47 : decode cX6_buy 47 = .ok (.athrow, 1) := by decide +kernel
theorem dX6_buy_48 : decode cX6_buy 48 = .ok (.aload_n 0, 1) := by decide +kernel
theorem dX6_buy_49 : decode cX6_buy 49 = .ok (.getfield 19, 3) := by decide +kernel
theorem dX6_buy_52 : decode cX6_buy 52 = .ok (.invokevirtual 47, 3) := by decide +kernel
theorem dX6_buy_55 : decode cX6_buy 55 = .ok (.istore 6, 2) := by decide +kernel
theorem dX6_buy_57 : decode cX6_buy 57 = .ok (.iload 6, 2) := by decide +kernel
theorem dX6_buy_59 : decode cX6_buy 59 = .ok (.bipush 40, 2) := by decide +kernel
theorem dX6_buy_61 : decode cX6_buy 61 = .ok (.if_icmp .lt 13, 3) := by decide +kernel
theorem dX6_buy_64 : decode cX6_buy 64 = .ok (.new 51, 3) := by decide +kernel
theorem dX6_buy_67 : decode cX6_buy 67 = .ok (.dup, 1) := by decide +kernel
theorem dX6_buy_68 : decode cX6_buy 68 = .ok (.ldc 156, 2) := by decide +kernel
theorem dX6_buy_70 : decode cX6_buy 70 = .ok (.invokespecial 55, 3) := by decide +kernel
theorem dX6_buy_73 : decode cX6_buy 73 = .ok (.athrow, 1) := by decide +kernel
theorem dX6_buy_74 : decode cX6_buy 74 = .ok (.aload 4, 2) := by decide +kernel
theorem dX6_buy_76 : decode cX6_buy 76 = .ok (.getfield 158, 3) := by decide +kernel
theorem dX6_buy_79 : decode cX6_buy 79 = .ok (.aload 5, 2) := by decide +kernel
theorem dX6_buy_81 : decode cX6_buy 81 = .ok (.getfield 88, 3) := by decide +kernel
theorem dX6_buy_84 : decode cX6_buy 84 = .ok (.if_icmp .ge 13, 3) := by decide +kernel
theorem dX6_buy_87 : decode cX6_buy 87 = .ok (.new 51, 3) := by decide +kernel
theorem dX6_buy_90 : decode cX6_buy 90 = .ok (.dup, 1) := by decide +kernel
theorem dX6_buy_91 : decode cX6_buy 91 = .ok (.ldc 161, 2) := by decide +kernel
theorem dX6_buy_93 : decode cX6_buy 93 = .ok (.invokespecial 55, 3) := by decide +kernel
theorem dX6_buy_96 : decode cX6_buy 96 = .ok (.athrow, 1) := by decide +kernel
theorem dX6_buy_97 : decode cX6_buy 97 = .ok (.aload_n 0, 1) := by decide +kernel
theorem dX6_buy_98 : decode cX6_buy 98 = .ok (.iload_n 1, 1) := by decide +kernel
theorem dX6_buy_99 : decode cX6_buy 99 = .ok (.aload 4, 2) := by decide +kernel
theorem dX6_buy_101 : decode cX6_buy 101 = .ok (.aload 5, 2) := by decide +kernel
theorem dX6_buy_103 : decode cX6_buy 103 = .ok (.invokevirtual 163, 3) := by decide +kernel
theorem dX6_buy_106 : decode cX6_buy 106 = .ok (.aload_n 0, 1) := by decide +kernel
theorem dX6_buy_107 : decode cX6_buy 107 = .ok (.aload 4, 2) := by decide +kernel
theorem dX6_buy_109 : decode cX6_buy 109 = .ok (.aload 5, 2) := by decide +kernel
theorem dX6_buy_111 : decode cX6_buy 111 = .ok (.getfield 88, 3) := by decide +kernel
theorem dX6_buy_114 : decode cX6_buy 114 = .ok (.invokevirtual 167, 3) := by decide +kernel
theorem dX6_buy_117 : decode cX6_buy 117 = .ok (.new 171, 3) := by decide +kernel
theorem dX6_buy_120 : decode cX6_buy 120 = .ok (.dup, 1) := by decide +kernel
theorem dX6_buy_121 : decode cX6_buy 121 = .ok (.iload 6, 2) := by decide +kernel
theorem dX6_buy_123 : decode cX6_buy 123 = .ok (.aload 5, 2) := by decide +kernel
theorem dX6_buy_125 : decode cX6_buy 125 = .ok (.aload 4, 2) := by decide +kernel
theorem dX6_buy_127 : decode cX6_buy 127 = .ok (.iload_n 1, 1) := by decide +kernel
theorem dX6_buy_128 : decode cX6_buy 128 = .ok (.aload_n 0, 1) := by decide +kernel
theorem dX6_buy_129 : decode cX6_buy 129 = .ok (.getfield 145, 3) := by decide +kernel
theorem dX6_buy_132 : decode cX6_buy 132 = .ok (.aload 5, 2) := by decide +kernel
theorem dX6_buy_134 : decode cX6_buy 134 = .ok (.getfield 88, 3) := by decide +kernel
theorem dX6_buy_137 : decode cX6_buy 137 = .ok (.invokespecial 173, 3) := by decide +kernel
theorem dX6_buy_140 : decode cX6_buy 140 = .ok (.astore 7, 2) := by decide +kernel
theorem dX6_buy_142 : decode cX6_buy 142 = .ok (.aload 7, 2) := by decide +kernel
theorem dX6_buy_144 : decode cX6_buy 144 = .ok (.aload_n 0, 1) := by decide +kernel
theorem dX6_buy_145 : decode cX6_buy 145 = .ok (.getfield 25, 3) := by decide +kernel
theorem dX6_buy_148 : decode cX6_buy 148 = .ok (.invokevirtual 176, 3) := by decide +kernel
theorem dX6_buy_151 : decode cX6_buy 151 = .ok (.aload_n 0, 1) := by decide +kernel
theorem dX6_buy_152 : decode cX6_buy 152 = .ok (.getfield 19, 3) := by decide +kernel
theorem dX6_buy_155 : decode cX6_buy 155 = .ok (.aload 7, 2) := by decide +kernel
theorem dX6_buy_157 : decode cX6_buy 157 = .ok (.invokevirtual 61, 3) := by decide +kernel
theorem dX6_buy_160 : decode cX6_buy 160 = .ok (.pop, 1) := by decide +kernel
theorem dX6_buy_161 : decode cX6_buy 161 = .ok (.iload 6, 2) := by decide +kernel
theorem dX6_buy_163 : decode cX6_buy 163 = .ok (.ireturn, 1) := by decide +kernel
set_option maxRecDepth 20000 in
theorem ggX6_giveBack_X6_guestNumbered : GoodIn wsX6_giveBack wsX6_guestNumbered := goodIn_ca (goodIn_r _ [16, 17, 18, 19, 20, 21, 22, 23, 24, 25, 26, 27, 28, 29, 30, 31, 32, 33, 34, 35, 36, 37, 38, 39, 40, 41, 42, 43, 73, 74, 75, 76, 77, 78, 79, 80, 81, 99, 100, 101] (by decide +kernel) (by decide +kernel)) (goodIn_sub (fun _ h => List.mem_cons_of_mem _ (List.mem_append_right _ h)) (by decide +kernel))
set_option maxRecDepth 20000 in
theorem gX6_giveBack_X6_guestNumbered : GoodIn wsX6_giveBack (wsV RX6 129 RX6 yX6_guestNumbered wsX6_guestNumbered) := goodIn_app (goodIn_of _ (by decide +kernel)) ggX6_giveBack_X6_guestNumbered
set_option maxRecDepth 20000 in
theorem ggX6_giveBack_X6_wishNumbered : GoodIn wsX6_giveBack wsX6_wishNumbered := goodIn_ca (goodIn_r _ [47, 17, 18, 48, 49, 21, 22, 23, 24, 25, 26, 27, 28, 29, 30, 31, 32, 33, 34, 35, 36, 37, 38, 39, 40, 41, 42, 43, 73, 74, 75, 76, 77, 78, 79, 80, 81, 99, 100, 101] (by decide +kernel) (by decide +kernel)) (goodIn_sub (fun _ h => List.mem_cons_of_mem _ (List.mem_append_right _ h)) (by decide +kernel))
set_option maxRecDepth 20000 in
theorem gX6_giveBack_X6_wishNumbered : GoodIn wsX6_giveBack (wsV RX6 74 RX6 yX6_wishNumbered wsX6_wishNumbered) := goodIn_app (goodIn_of _ (by decide +kernel)) ggX6_giveBack_X6_wishNumbered
set_option maxRecDepth 20000 in
theorem ggX6_giveBack_X6_refuseIfCalledOff : GoodIn wsX6_giveBack wsX6_refuseIfCalledOff := goodIn_ca (goodIn_r _ [53, 1, 2, 54, 73, 74, 75, 76, 77, 78, 79, 80, 81] (by decide +kernel) (by decide +kernel)) (goodIn_sub (fun _ h => List.mem_cons_of_mem _ (List.mem_append_left _ (List.mem_append_right _ h))) (by decide +kernel))
set_option maxRecDepth 20000 in
theorem gX6_giveBack_X6_refuseIfCalledOff : GoodIn wsX6_giveBack (wsV RX6 44 RX6 yX6_refuseIfCalledOff wsX6_refuseIfCalledOff) := goodIn_app (goodIn_of _ (by decide +kernel)) ggX6_giveBack_X6_refuseIfCalledOff
set_option maxRecDepth 20000 in
theorem ggX6_giveBack_Jx4a65c_size_8abf5 : GoodIn wsX6_giveBack wsJx4a65c_size_8abf5 := goodIn_r _ [25, 26, 99, 100, 101] (by decide +kernel) (by decide +kernel)
set_option maxRecDepth 20000 in
theorem gX6_giveBack_Jx4a65c_size_8abf5 : GoodIn wsX6_giveBack (wsV RX6 47 RJx4a65c yJx4a65c_size_8abf5 wsJx4a65c_size_8abf5) := goodIn_app (goodIn_of _ (by decide +kernel)) ggX6_giveBack_Jx4a65c_size_8abf5
set_option maxRecDepth 20000 in
theorem ggX6_giveBack_Jx4a65c_get_915e3 : GoodIn wsX6_giveBack wsJx4a65c_get_915e3 := goodIn_r _ [30, 26, 31, 32, 33, 34, 35, 36, 37, 38, 39, 40, 41, 24, 42, 43, 99, 100, 101] (by decide +kernel) (by decide +kernel)
set_option maxRecDepth 20000 in
theorem gX6_giveBack_Jx4a65c_get_915e3 : GoodIn wsX6_giveBack (wsV RX6 122 RJx4a65c yJx4a65c_get_915e3 wsJx4a65c_get_915e3) := goodIn_app (goodIn_of _ (by decide +kernel)) ggX6_giveBack_Jx4a65c_get_915e3
set_option maxRecDepth 20000 in
theorem ggX6_giveBack_X1_isKept : GoodIn wsX6_giveBack wsX1_isKept := goodIn_r _ [59, 60, 82, 83, 84, 85, 86, 87, 88, 89, 90] (by decide +kernel) (by decide +kernel)
set_option maxRecDepth 20000 in
theorem gX6_giveBack_X1_isKept : GoodIn wsX6_giveBack (wsV RX6 177 RX1 yX1_isKept wsX1_isKept) := goodIn_app (goodIn_of _ (by decide +kernel)) ggX6_giveBack_X1_isKept
set_option maxRecDepth 20000 in
theorem ggX6_giveBack_X6_endGift : GoodIn wsX6_giveBack wsX6_endGift := goodIn_r _ [64, 65, 5, 6, 66, 67, 68, 69, 15, 70, 71, 72, 82, 83, 84, 85, 86, 87, 88, 89, 90, 91, 92, 93, 94, 95, 96, 97, 98, 102, 103, 73, 74, 75, 76, 77, 78, 79, 80, 81] (by decide +kernel) (by decide +kernel)
set_option maxRecDepth 20000 in
theorem gX6_giveBack_X6_endGift : GoodIn wsX6_giveBack (wsV RX6 194 RX6 yX6_endGift wsX6_endGift) := goodIn_app (goodIn_of _ (by decide +kernel)) ggX6_giveBack_X6_endGift
theorem dX6_giveBack_0 : decode cX6_giveBack 0 = .ok (.aload_n 0, 1) := by decide +kernel
theorem dX6_giveBack_1 : decode cX6_giveBack 1 = .ok (.iload_n 1, 1) := by decide +kernel
theorem dX6_giveBack_2 : decode cX6_giveBack 2 = .ok (.invokevirtual 129, 3) := by decide +kernel
theorem dX6_giveBack_5 : decode cX6_giveBack 5 = .ok (.astore_n 3, 1) := by decide +kernel
theorem dX6_giveBack_6 : decode cX6_giveBack 6 = .ok (.aload_n 0, 1) := by decide +kernel
theorem dX6_giveBack_7 : decode cX6_giveBack 7 = .ok (.iload_n 2, 1) := by decide +kernel
theorem dX6_giveBack_8 : decode cX6_giveBack 8 = .ok (.invokevirtual 74, 3) := by decide +kernel
theorem dX6_giveBack_11 : decode cX6_giveBack 11 = .ok (.astore 4, 2) := by decide +kernel
theorem dX6_giveBack_13 : decode cX6_giveBack 13 = .ok (.aload_n 0, 1) := by decide +kernel
theorem dX6_giveBack_14 : decode cX6_giveBack 14 = .ok (.invokevirtual 44, 3) := by decide +kernel
theorem dX6_giveBack_17 : decode cX6_giveBack 17 = .ok (.aload_n 0, 1) := by decide +kernel
theorem dX6_giveBack_18 : decode cX6_giveBack 18 = .ok (.getfield 19, 3) := by decide +kernel
theorem dX6_giveBack_21 : decode cX6_giveBack 21 = .ok (.invokevirtual 47, 3) := by decide +kernel
theorem dX6_giveBack_24 : decode cX6_giveBack 24 = .ok (.iconst 1, 1) := by decide +kernel
theorem dX6_giveBack_25 : decode cX6_giveBack 25 = .ok (.isub, 1) := by decide +kernel
theorem dX6_giveBack_26 : decode cX6_giveBack 26 = .ok (.istore 5, 2) := by decide +kernel
theorem dX6_giveBack_28 : decode cX6_giveBack 28 = .ok (.iload 5, 2) := by decide +kernel
theorem dX6_giveBack_30 : decode cX6_giveBack 30 = .ok (.ifCond .lt 83, 3) := by decide +kernel
theorem dX6_giveBack_33 : decode cX6_giveBack 33 = .ok (.aload_n 0, 1) := by decide +kernel
theorem dX6_giveBack_34 : decode cX6_giveBack 34 = .ok (.getfield 19, 3) := by decide +kernel
theorem dX6_giveBack_37 : decode cX6_giveBack 37 = .ok (.iload 5, 2) := by decide +kernel
theorem dX6_giveBack_39 : decode cX6_giveBack 39 = .ok (.invokevirtual 122, 3) := by decide +kernel
theorem dX6_giveBack_42 : decode cX6_giveBack 42 = .ok (.checkcast 171, 3) := by decide +kernel
theorem dX6_giveBack_45 : decode cX6_giveBack 45 = .ok (.astore 6, 2) := by decide +kernel
theorem dX6_giveBack_47 : decode cX6_giveBack 47 = .ok (.aload 6, 2) := by decide +kernel
theorem dX6_giveBack_49 : decode cX6_giveBack 49 = .ok (.invokevirtual 177, 3) := by decide +kernel
theorem dX6_giveBack_52 : decode cX6_giveBack 52 = .ok (.ifCond .eq 55, 3) := by decide +kernel
theorem dX6_giveBack_55 : decode cX6_giveBack 55 = .ok (.aload 6, 2) := by decide +kernel
theorem dX6_giveBack_57 : decode cX6_giveBack 57 = .ok (.getfield 181, 3) := by decide +kernel
theorem dX6_giveBack_60 : decode cX6_giveBack 60 = .ok (.aload_n 3, 1) := by decide +kernel
theorem dX6_giveBack_61 : decode cX6_giveBack 61 = .ok (.if_acmp .ne 46, 3) := by decide +kernel
theorem dX6_giveBack_64 : decode cX6_giveBack 64 = .ok (.aload 6, 2) := by decide +kernel
theorem dX6_giveBack_66 : decode cX6_giveBack 66 = .ok (.getfield 185, 3) := by decide +kernel
theorem dX6_giveBack_69 : decode cX6_giveBack 69 = .ok (.aload 4, 2) := by decide +kernel
theorem dX6_giveBack_71 : decode cX6_giveBack 71 = .ok (.if_acmp .ne 36, 3) := by decide +kernel
theorem dX6_giveBack_74 : decode cX6_giveBack 74 = .ok (.aload_n 0, 1) := by decide +kernel
theorem dX6_giveBack_75 : decode cX6_giveBack 75 = .ok (.getfield 145, 3) := by decide +kernel
theorem dX6_giveBack_78 : decode cX6_giveBack 78 = .ok (.aload 6, 2) := by decide +kernel
theorem dX6_giveBack_80 : decode cX6_giveBack 80 = .ok (.getfield 189, 3) := by decide +kernel
theorem dX6_giveBack_83 : decode cX6_giveBack 83 = .ok (.isub, 1) := by decide +kernel
theorem dX6_giveBack_84 : decode cX6_giveBack 84 = .ok (.bipush 100, 2) := by decide +kernel
theorem dX6_giveBack_86 : decode cX6_giveBack 86 = .ok (.if_icmp .le 13, 3) := by decide +kernel
theorem dX6_giveBack_89 : decode cX6_giveBack 89 = .ok (.new 51, 3) := by decide +kernel
theorem dX6_giveBack_92 : decode cX6_giveBack 92 = .ok (.dup, 1) := by decide +kernel
theorem dX6_giveBack_93 : decode cX6_giveBack 93 = .ok (.ldc 192, 2) := by decide +kernel
theorem dX6_giveBack_95 : decode cX6_giveBack 95 = .ok (.invokespecial 55, 3) := by decide +kernel
theorem dX6_giveBack_98 : decode cX6_giveBack 98 = .ok (.athrow, 1) := by decide +kernel
theorem dX6_giveBack_99 : decode cX6_giveBack 99 = .ok (.aload_n 0, 1) := by decide +kernel
theorem dX6_giveBack_100 : decode cX6_giveBack 100 = .ok (.aload 6, 2) := by decide +kernel
theorem dX6_giveBack_102 : decode cX6_giveBack 102 = .ok (.iconst 2, 1) := by decide +kernel
theorem dX6_giveBack_103 : decode cX6_giveBack 103 = .ok (.invokevirtual 194, 3) := by decide +kernel
theorem dX6_giveBack_106 : decode cX6_giveBack 106 = .ok (.ireturn, 1) := by decide +kernel
theorem dX6_giveBack_107 : decode cX6_giveBack 107 = .ok (.iinc 5 (-1), 3) := by decide +kernel
theorem dX6_giveBack_110 : decode cX6_giveBack 110 = .ok (.goto (-82), 3) := by decide +kernel
theorem dX6_giveBack_113 : decode cX6_giveBack 113 = .ok (.new 51, 3) := by decide +kernel
theorem dX6_giveBack_116 : decode cX6_giveBack 116 = .ok (.dup, 1) := by decide +kernel
theorem dX6_giveBack_117 : decode cX6_giveBack 117 = .ok (.ldc 198, 2) := by decide +kernel
theorem dX6_giveBack_119 : decode cX6_giveBack 119 = .ok (.invokespecial 55, 3) := by decide +kernel
theorem dX6_giveBack_122 : decode cX6_giveBack 122 = .ok (.athrow, 1) := by decide +kernel
set_option maxRecDepth 20000 in
theorem ggX6_pledge_X6_guestNumbered : GoodIn wsX6_pledge wsX6_guestNumbered := goodIn_ca (goodIn_r _ [19, 20, 21, 22, 23, 24, 25, 26, 27, 28, 29, 30, 31, 32, 33, 34, 35, 36, 37, 38, 39, 40, 41, 42, 43, 44, 45, 46, 159, 160, 161, 162, 163, 164, 165, 166, 167, 168, 169, 170] (by decide +kernel) (by decide +kernel)) (goodIn_sub (fun _ h => List.mem_cons_of_mem _ (List.mem_append_right _ h)) (by decide +kernel))
set_option maxRecDepth 20000 in
theorem gX6_pledge_X6_guestNumbered : GoodIn wsX6_pledge (wsV RX6 129 RX6 yX6_guestNumbered wsX6_guestNumbered) := goodIn_app (goodIn_of _ (by decide +kernel)) ggX6_pledge_X6_guestNumbered
set_option maxRecDepth 20000 in
theorem ggX6_pledge_X6_wishNumbered : GoodIn wsX6_pledge wsX6_wishNumbered := goodIn_ca (goodIn_r _ [50, 20, 21, 51, 52, 24, 25, 26, 27, 28, 29, 30, 31, 32, 33, 34, 35, 36, 37, 38, 39, 40, 41, 42, 43, 44, 45, 46, 159, 160, 161, 162, 163, 164, 165, 166, 167, 168, 169, 170] (by decide +kernel) (by decide +kernel)) (goodIn_sub (fun _ h => List.mem_cons_of_mem _ (List.mem_append_right _ h)) (by decide +kernel))
set_option maxRecDepth 20000 in
theorem gX6_pledge_X6_wishNumbered : GoodIn wsX6_pledge (wsV RX6 74 RX6 yX6_wishNumbered wsX6_wishNumbered) := goodIn_app (goodIn_of _ (by decide +kernel)) ggX6_pledge_X6_wishNumbered
set_option maxRecDepth 20000 in
theorem ggX6_pledge_X6_refuseIfSettled : GoodIn wsX6_pledge wsX6_refuseIfSettled := goodIn_ca (goodIn_r _ [56, 3, 4, 57, 58, 59, 60, 18, 61, 62, 63, 64, 65, 66, 67, 68, 69, 70, 71, 72, 73, 74, 75, 9, 76, 77, 78, 79, 80, 81, 82, 83, 84, 25, 26, 27, 28, 29, 85, 31, 32, 33, 34, 35, 36, 37, 38, 39, 40, 41, 42, 43, 44, 45, 46, 148, 149, 150, 151, 152, 153, 154, 159, 160, 161, 162, 163, 164, 165, 166, 167, 157, 158, 168, 169, 170] (by decide +kernel) (by decide +kernel)) (goodIn_sub (fun _ h => List.mem_cons_of_mem _ (List.mem_append_left _ (List.mem_append_right _ h))) (by decide +kernel))
set_option maxRecDepth 20000 in
theorem gX6_pledge_X6_refuseIfSettled : GoodIn wsX6_pledge (wsV RX6 84 RX6 yX6_refuseIfSettled wsX6_refuseIfSettled) := goodIn_app (goodIn_of _ (by decide +kernel)) ggX6_pledge_X6_refuseIfSettled
set_option maxRecDepth 20000 in
theorem ggX6_pledge_X5_lacking : GoodIn wsX6_pledge wsX5_lacking := goodIn_r _ [72, 68, 73, 74, 75, 9, 76, 77, 78, 79, 66, 80, 81, 82, 83, 84, 25, 26, 27, 28, 29, 85, 31, 32, 33, 34, 35, 36, 37, 38, 39, 40, 41, 42, 43, 44, 45, 46, 148, 149, 150, 151, 152, 153, 154, 157, 158, 168, 169, 170] (by decide +kernel) (by decide +kernel)
set_option maxRecDepth 20000 in
theorem gX6_pledge_X5_lacking : GoodIn wsX6_pledge (wsV RX6 206 RX5 yX5_lacking wsX5_lacking) := goodIn_app (goodIn_of _ (by decide +kernel)) ggX6_pledge_X5_lacking
set_option maxRecDepth 20000 in
theorem ggX6_pledge_X6_pay : GoodIn wsX6_pledge wsX6_pay := goodIn_r _ [90, 6, 91, 155, 156, 159, 160, 161, 162, 163, 164, 165, 166, 167] (by decide +kernel) (by decide +kernel)
set_option maxRecDepth 20000 in
theorem gX6_pledge_X6_pay : GoodIn wsX6_pledge (wsV RX6 167 RX6 yX6_pay wsX6_pay) := goodIn_app (goodIn_of _ (by decide +kernel)) ggX6_pledge_X6_pay
set_option maxRecDepth 20000 in
theorem ggX6_pledge_X4_init : GoodIn wsX6_pledge wsX4_init := goodIn_r _ [94, 95, 96, 97, 98, 99, 157, 158] (by decide +kernel) (by decide +kernel)
set_option maxRecDepth 20000 in
theorem gX6_pledge_X4_init : GoodIn wsX6_pledge (wsX4_init) := ggX6_pledge_X4_init
set_option maxRecDepth 20000 in
theorem ggX6_pledge_Jx4a65c_add_9ea2d : GoodIn wsX6_pledge wsJx4a65c_add_9ea2d := goodIn_r _ [103, 104, 105, 46, 29, 106, 107, 108, 27, 109, 110, 111, 112, 113, 114, 115, 116, 117, 118, 119, 75, 9, 76, 120, 121, 122, 123, 124, 125, 126, 127, 128, 129, 130, 131, 132, 133, 134, 135, 136, 137, 138, 139, 140, 141, 142, 143, 8, 10, 144, 145, 146, 147, 168, 169, 170] (by decide +kernel) (by decide +kernel)
set_option maxRecDepth 20000 in
theorem gX6_pledge_Jx4a65c_add_9ea2d : GoodIn wsX6_pledge (wsV RX6 61 RJx4a65c yJx4a65c_add_9ea2d wsJx4a65c_add_9ea2d) := goodIn_app (goodIn_of _ (by decide +kernel)) ggX6_pledge_Jx4a65c_add_9ea2d
theorem dX6_pledge_0 : decode cX6_pledge 0 = .ok (.aload_n 0, 1) := by decide +kernel
theorem dX6_pledge_1 : decode cX6_pledge 1 = .ok (.iload_n 1, 1) := by decide +kernel
theorem dX6_pledge_2 : decode cX6_pledge 2 = .ok (.invokevirtual 129, 3) := by decide +kernel
theorem dX6_pledge_5 : decode cX6_pledge 5 = .ok (.astore 4, 2) := by decide +kernel
theorem dX6_pledge_7 : decode cX6_pledge 7 = .ok (.aload_n 0, 1) := by decide +kernel
theorem dX6_pledge_8 : decode cX6_pledge 8 = .ok (.iload_n 2, 1) := by decide +kernel
theorem dX6_pledge_9 : decode cX6_pledge 9 = .ok (.invokevirtual 74, 3) := by decide +kernel
theorem dX6_pledge_12 : decode cX6_pledge 12 = .ok (.astore 5, 2) := by decide +kernel
theorem dX6_pledge_14 : decode cX6_pledge 14 = .ok (.iload_n 3, 1) := by decide +kernel
theorem dX6_pledge_15 : decode cX6_pledge 15 = .ok (.iconst 1, 1) := by decide +kernel
theorem dX6_pledge_16 : decode cX6_pledge 16 = .ok (.if_icmp .lt 10, 3) := by decide +kernel
theorem dX6_pledge_19 : decode cX6_pledge 19 = .ok (.iload_n 3, 1) := by decide +kernel
theorem dX6_pledge_20 : decode cX6_pledge 20 = .ok (.sipush 9999, 3) := by decide +kernel
theorem dX6_pledge_23 : decode cX6_pledge 23 = .ok (.if_icmp .le 13, 3) := by decide +kernel
theorem dX6_pledge_26 : decode cX6_pledge 26 = .ok (.new 29, 3) := by decide +kernel
theorem dX6_pledge_29 : decode cX6_pledge 29 = .ok (.dup, 1) := by decide +kernel
theorem dX6_pledge_30 : decode cX6_pledge 30 = .ok (.ldc 200, 2) := by decide +kernel
theorem dX6_pledge_32 : decode cX6_pledge 32 = .ok (.invokespecial 33, 3) := by decide +kernel
theorem dX6_pledge_35 : decode cX6_pledge 35 = .ok (.athrow, 1) := by decide +kernel
theorem dX6_pledge_36 : decode cX6_pledge 36 = .ok (.aload_n 0, 1) := by decide +kernel
theorem dX6_pledge_37 : decode cX6_pledge 37 = .ok (.aload 5, 2) := by decide +kernel
theorem dX6_pledge_39 : decode cX6_pledge 39 = .ok (.invokevirtual 84, 3) := by decide +kernel
theorem dX6_pledge_42 : decode cX6_pledge 42 = .ok (.aload 5, 2) := by decide +kernel
theorem dX6_pledge_44 : decode cX6_pledge 44 = .ok (.getfield 78, 3) := by decide +kernel
theorem dX6_pledge_47 : decode cX6_pledge 47 = .ok (.ifCond .ne 13, 3) := by decide +kernel
theorem dX6_pledge_50 : decode cX6_pledge 50 = .ok (.new 51, 3) := by decide +kernel
theorem dX6_pledge_53 : decode cX6_pledge 53 = .ok (.dup, 1) := by decide +kernel
theorem dX6_pledge_54 : decode cX6_pledge 54 = .ok (.ldc 202, 2) := by decide +kernel
theorem dX6_pledge_56 : decode cX6_pledge 56 = .ok (.invokespecial 55, 3) := by decide +kernel
theorem dX6_pledge_59 : decode cX6_pledge 59 = .ok (.athrow, 1) := by decide +kernel
theorem dX6_pledge_60 : decode cX6_pledge 60 = .ok (.aload 4, 2) := by decide +kernel
theorem dX6_pledge_62 : decode cX6_pledge 62 = .ok (.getfield 158, 3) := by decide +kernel
theorem dX6_pledge_65 : decode cX6_pledge 65 = .ok (.iload_n 3, 1) := by decide +kernel
theorem dX6_pledge_66 : decode cX6_pledge 66 = .ok (.if_icmp .ge 13, 3) := by decide +kernel
theorem dX6_pledge_69 : decode cX6_pledge 69 = .ok (.new 51, 3) := by decide +kernel
theorem dX6_pledge_72 : decode cX6_pledge 72 = .ok (.dup, 1) := by decide +kernel
theorem dX6_pledge_73 : decode cX6_pledge 73 = .ok (.ldc 204, 2) := by decide +kernel
theorem dX6_pledge_75 : decode cX6_pledge 75 = .ok (.invokespecial 55, 3) := by decide +kernel
theorem dX6_pledge_78 : decode cX6_pledge 78 = .ok (.athrow, 1) := by decide +kernel
theorem dX6_pledge_79 : decode cX6_pledge 79 = .ok (.iload_n 3, 1) := by decide +kernel
theorem dX6_pledge_80 : decode cX6_pledge 80 = .ok (.aload 5, 2) := by decide +kernel
theorem dX6_pledge_82 : decode cX6_pledge 82 = .ok (.invokevirtual 206, 3) := by decide +kernel
theorem dX6_pledge_85 : decode cX6_pledge 85 = .ok (.invokestatic 209, 3) := by decide +kernel
theorem dX6_pledge_88 : decode cX6_pledge 88 = .ok (.istore 6, 2) := by decide +kernel
theorem dX6_pledge_90 : decode cX6_pledge 90 = .ok (.aload_n 0, 1) := by decide +kernel
theorem dX6_pledge_91 : decode cX6_pledge 91 = .ok (.aload 4, 2) := by decide +kernel
theorem dX6_pledge_93 : decode cX6_pledge 93 = .ok (.iload 6, 2) := by decide +kernel
theorem dX6_pledge_95 : decode cX6_pledge 95 = .ok (.invokevirtual 167, 3) := by decide +kernel
theorem dX6_pledge_98 : decode cX6_pledge 98 = .ok (.aload 5, 2) := by decide +kernel
theorem dX6_pledge_100 : decode cX6_pledge 100 = .ok (.getfield 215, 3) := by decide +kernel
theorem dX6_pledge_103 : decode cX6_pledge 103 = .ok (.new 218, 3) := by decide +kernel
theorem dX6_pledge_106 : decode cX6_pledge 106 = .ok (.dup, 1) := by decide +kernel
theorem dX6_pledge_107 : decode cX6_pledge 107 = .ok (.aload 4, 2) := by decide +kernel
theorem dX6_pledge_109 : decode cX6_pledge 109 = .ok (.iload 6, 2) := by decide +kernel
theorem dX6_pledge_111 : decode cX6_pledge 111 = .ok (.invokespecial 220, 3) := by decide +kernel
theorem dX6_pledge_114 : decode cX6_pledge 114 = .ok (.invokevirtual 61, 3) := by decide +kernel
theorem dX6_pledge_117 : decode cX6_pledge 117 = .ok (.pop, 1) := by decide +kernel
theorem dX6_pledge_118 : decode cX6_pledge 118 = .ok (.iload 6, 2) := by decide +kernel
theorem dX6_pledge_120 : decode cX6_pledge 120 = .ok (.ireturn, 1) := by decide +kernel
set_option maxRecDepth 20000 in
theorem ggX6_pass_X6_holdsStanding : GoodIn wsX6_pass wsX6_holdsStanding := goodIn_r _ [10, 11, 12, 5, 13, 14, 15, 16, 17, 18, 19, 20, 21, 22, 23, 24, 25, 26, 27, 28, 29, 30, 31, 32, 33, 34, 35, 36, 37, 38, 39, 40, 41, 42, 43, 44, 45, 46, 47, 48, 49, 9, 50, 51, 52, 53, 54, 55, 56, 57, 58, 59, 60, 61, 62, 63, 64, 65, 66, 67, 68, 69, 70, 71, 72, 73, 74, 75, 76, 77, 78, 79, 80, 81, 82, 83, 84, 85, 86] (by decide +kernel) (by decide +kernel)
set_option maxRecDepth 20000 in
theorem gX6_pass_X6_holdsStanding : GoodIn wsX6_pass (wsV RX6 226 RX6 yX6_holdsStanding wsX6_holdsStanding) := goodIn_app (goodIn_of _ (by decide +kernel)) ggX6_pass_X6_holdsStanding
theorem dX6_pass_0 : decode cX6_pass 0 = .ok (.iload_n 1, 1) := by decide +kernel
theorem dX6_pass_1 : decode cX6_pass 1 = .ok (.iconst 1, 1) := by decide +kernel
theorem dX6_pass_2 : decode cX6_pass 2 = .ok (.if_icmp .lt 10, 3) := by decide +kernel
theorem dX6_pass_5 : decode cX6_pass 5 = .ok (.iload_n 1, 1) := by decide +kernel
theorem dX6_pass_6 : decode cX6_pass 6 = .ok (.sipush 500, 3) := by decide +kernel
theorem dX6_pass_9 : decode cX6_pass 9 = .ok (.if_icmp .le 13, 3) := by decide +kernel
theorem dX6_pass_12 : decode cX6_pass 12 = .ok (.new 29, 3) := by decide +kernel
theorem dX6_pass_15 : decode cX6_pass 15 = .ok (.dup, 1) := by decide +kernel
theorem dX6_pass_16 : decode cX6_pass 16 = .ok (.ldc 222, 2) := by decide +kernel
theorem dX6_pass_18 : decode cX6_pass 18 = .ok (.invokespecial 33, 3) := by decide +kernel
theorem dX6_pass_21 : decode cX6_pass 21 = .ok (.athrow, 1) := by decide +kernel
theorem dX6_pass_22 : decode cX6_pass 22 = .ok (.aload_n 0, 1) := by decide +kernel
theorem dX6_pass_23 : decode cX6_pass 23 = .ok (.getfield 145, 3) := by decide +kernel
theorem dX6_pass_26 : decode cX6_pass 26 = .ok (.iload_n 1, 1) := by decide +kernel
theorem dX6_pass_27 : decode cX6_pass 27 = .ok (.iadd, 1) := by decide +kernel
theorem dX6_pass_28 : decode cX6_pass 28 = .ok (.sipush 9999, 3) := by decide +kernel
theorem dX6_pass_31 : decode cX6_pass 31 = .ok (.if_icmp .le 13, 3) := by decide +kernel
theorem dX6_pass_34 : decode cX6_pass 34 = .ok (.new 51, 3) := by decide +kernel
theorem dX6_pass_37 : decode cX6_pass 37 = .ok (.dup, 1) := by decide +kernel
theorem dX6_pass_38 : decode cX6_pass 38 = .ok (.ldc 224, 2) := by decide +kernel
theorem dX6_pass_40 : decode cX6_pass 40 = .ok (.invokespecial 55, 3) := by decide +kernel
theorem dX6_pass_43 : decode cX6_pass 43 = .ok (.athrow, 1) := by decide +kernel
theorem dX6_pass_44 : decode cX6_pass 44 = .ok (.aload_n 0, 1) := by decide +kernel
theorem dX6_pass_45 : decode cX6_pass 45 = .ok (.dup, 1) := by decide +kernel
theorem dX6_pass_46 : decode cX6_pass 46 = .ok (.getfield 145, 3) := by decide +kernel
theorem dX6_pass_49 : decode cX6_pass 49 = .ok (.iload_n 1, 1) := by decide +kernel
theorem dX6_pass_50 : decode cX6_pass 50 = .ok (.iadd, 1) := by decide +kernel
theorem dX6_pass_51 : decode cX6_pass 51 = .ok (.putfield 145, 3) := by decide +kernel
theorem dX6_pass_54 : decode cX6_pass 54 = .ok (.aload_n 0, 1) := by decide +kernel
theorem dX6_pass_55 : decode cX6_pass 55 = .ok (.invokevirtual 226, 3) := by decide +kernel
theorem dX6_pass_58 : decode cX6_pass 58 = .ok (.ireturn, 1) := by decide +kernel
set_option maxRecDepth 20000 in
theorem ggX6_ofWish_X6_wishNumbered : GoodIn wsX6_ofWish wsX6_wishNumbered := goodIn_ca (goodIn_r _ [11, 12, 13, 14, 15, 16, 17, 18, 19, 20, 21, 22, 23, 24, 25, 26, 27, 28, 29, 30, 31, 32, 33, 34, 35, 36, 37, 38, 84, 85, 86, 87, 88, 89, 90, 91, 92, 93, 94, 95] (by decide +kernel) (by decide +kernel)) (goodIn_sub (fun _ h => List.mem_cons_of_mem _ (List.mem_append_right _ h)) (by decide +kernel))
set_option maxRecDepth 20000 in
theorem gX6_ofWish_X6_wishNumbered : GoodIn wsX6_ofWish (wsV RX6 74 RX6 yX6_wishNumbered wsX6_wishNumbered) := goodIn_app (goodIn_of _ (by decide +kernel)) ggX6_ofWish_X6_wishNumbered
set_option maxRecDepth 20000 in
theorem ggX6_ofWish_X6_oneIf : GoodIn wsX6_ofWish wsX6_oneIf := goodIn_r _ [41] (by decide +kernel) (by decide +kernel)
set_option maxRecDepth 20000 in
theorem gX6_ofWish_X6_oneIf : GoodIn wsX6_ofWish (va_wsS RX6 235 yX6_oneIf wsX6_oneIf) := goodIn_app (goodIn_of _ (by decide +kernel)) ggX6_ofWish_X6_oneIf
set_option maxRecDepth 20000 in
theorem ggX6_ofWish_X6_giftsOf : GoodIn wsX6_ofWish wsX6_giftsOf := goodIn_r _ [45, 46, 47, 48, 49, 50, 16, 17, 18, 19, 20, 21, 22, 23, 24, 25, 26, 27, 28, 29, 30, 31, 32, 33, 34, 35, 36, 37, 38, 39, 40, 10, 41, 84, 85, 86, 87, 88, 89, 90, 91, 92, 96, 97, 98, 99, 100, 101, 102, 103, 104, 105, 106, 107, 108, 109, 110, 111, 112, 93, 94, 95] (by decide +kernel) (by decide +kernel)
set_option maxRecDepth 20000 in
theorem gX6_ofWish_X6_giftsOf : GoodIn wsX6_ofWish (wsV RX6 239 RX6 yX6_giftsOf wsX6_giftsOf) := goodIn_app (goodIn_of _ (by decide +kernel)) ggX6_ofWish_X6_giftsOf
set_option maxRecDepth 20000 in
theorem ggX6_ofWish_X5_pledged : GoodIn wsX6_ofWish wsX5_pledged := goodIn_r _ [55, 56, 57, 58, 59, 17, 18, 19, 20, 21, 60, 23, 24, 25, 26, 27, 28, 29, 30, 31, 32, 33, 34, 35, 36, 37, 38, 77, 78, 79, 80, 81, 82, 83, 113, 114, 93, 94, 95] (by decide +kernel) (by decide +kernel)
set_option maxRecDepth 20000 in
theorem gX6_ofWish_X5_pledged : GoodIn wsX6_ofWish (wsV RX6 91 RX5 yX5_pledged wsX5_pledged) := goodIn_app (goodIn_of _ (by decide +kernel)) ggX6_ofWish_X5_pledged
set_option maxRecDepth 20000 in
theorem ggX6_ofWish_X5_lacking : GoodIn wsX6_ofWish wsX5_lacking := goodIn_r _ [64, 65, 66, 67, 68, 69, 70, 71, 52, 53, 54, 55, 56, 57, 58, 59, 17, 18, 19, 20, 21, 60, 23, 24, 25, 26, 27, 28, 29, 30, 31, 32, 33, 34, 35, 36, 37, 38, 77, 78, 79, 80, 81, 82, 83, 113, 114, 93, 94, 95] (by decide +kernel) (by decide +kernel)
set_option maxRecDepth 20000 in
theorem gX6_ofWish_X5_lacking : GoodIn wsX6_ofWish (wsV RX6 206 RX5 yX5_lacking wsX5_lacking) := goodIn_app (goodIn_of _ (by decide +kernel)) ggX6_ofWish_X5_lacking
set_option maxRecDepth 20000 in
theorem ggX6_ofWish_X5_isOrdered : GoodIn wsX6_ofWish wsX5_isOrdered := goodIn_r _ [75, 65, 76, 62, 63, 54, 64, 66, 67, 68, 69, 70, 71, 52, 53, 55, 56, 57, 58, 59, 17, 18, 19, 20, 21, 60, 23, 24, 25, 26, 27, 28, 29, 30, 31, 32, 33, 34, 35, 36, 37, 38, 77, 78, 79, 80, 81, 82, 83, 113, 114, 93, 94, 95] (by decide +kernel) (by decide +kernel)
set_option maxRecDepth 20000 in
theorem gX6_ofWish_X5_isOrdered : GoodIn wsX6_ofWish (wsV RX6 242 RX5 yX5_isOrdered wsX5_isOrdered) := goodIn_app (goodIn_of _ (by decide +kernel)) ggX6_ofWish_X5_isOrdered
theorem dX6_ofWish_0 : decode cX6_ofWish 0 = .ok (.aload_n 0, 1) := by decide +kernel
theorem dX6_ofWish_1 : decode cX6_ofWish 1 = .ok (.iload_n 1, 1) := by decide +kernel
theorem dX6_ofWish_2 : decode cX6_ofWish 2 = .ok (.invokevirtual 74, 3) := by decide +kernel
theorem dX6_ofWish_5 : decode cX6_ofWish 5 = .ok (.astore_n 3, 1) := by decide +kernel
theorem dX6_ofWish_6 : decode cX6_ofWish 6 = .ok (.iload_n 2, 1) := by decide +kernel
theorem dX6_ofWish_7 : decode cX6_ofWish 7 = .ok (.tableswitch 107 0 8 #[49, 54, 59, 67, 75, 82, 89, 94, 99], 49) := by decide +kernel
theorem dX6_ofWish_56 : decode cX6_ofWish 56 = .ok (.aload_n 3, 1) := by decide +kernel
theorem dX6_ofWish_57 : decode cX6_ofWish 57 = .ok (.getfield 232, 3) := by decide +kernel
theorem dX6_ofWish_60 : decode cX6_ofWish 60 = .ok (.ireturn, 1) := by decide +kernel
theorem dX6_ofWish_61 : decode cX6_ofWish 61 = .ok (.aload_n 3, 1) := by decide +kernel
theorem dX6_ofWish_62 : decode cX6_ofWish 62 = .ok (.getfield 88, 3) := by decide +kernel
theorem dX6_ofWish_65 : decode cX6_ofWish 65 = .ok (.ireturn, 1) := by decide +kernel
theorem dX6_ofWish_66 : decode cX6_ofWish 66 = .ok (.aload_n 3, 1) := by decide +kernel
theorem dX6_ofWish_67 : decode cX6_ofWish 67 = .ok (.getfield 78, 3) := by decide +kernel
theorem dX6_ofWish_70 : decode cX6_ofWish 70 = .ok (.invokestatic 235, 3) := by decide +kernel
theorem dX6_ofWish_73 : decode cX6_ofWish 73 = .ok (.ireturn, 1) := by decide +kernel
theorem dX6_ofWish_74 : decode cX6_ofWish 74 = .ok (.aload_n 3, 1) := by decide +kernel
theorem dX6_ofWish_75 : decode cX6_ofWish 75 = .ok (.getfield 98, 3) := by decide +kernel
theorem dX6_ofWish_78 : decode cX6_ofWish 78 = .ok (.invokestatic 235, 3) := by decide +kernel
theorem dX6_ofWish_81 : decode cX6_ofWish 81 = .ok (.ireturn, 1) := by decide +kernel
theorem dX6_ofWish_82 : decode cX6_ofWish 82 = .ok (.aload_n 0, 1) := by decide +kernel
theorem dX6_ofWish_83 : decode cX6_ofWish 83 = .ok (.aload_n 3, 1) := by decide +kernel
theorem dX6_ofWish_84 : decode cX6_ofWish 84 = .ok (.iconst 0, 1) := by decide +kernel
theorem dX6_ofWish_85 : decode cX6_ofWish 85 = .ok (.invokevirtual 239, 3) := by decide +kernel
theorem dX6_ofWish_88 : decode cX6_ofWish 88 = .ok (.ireturn, 1) := by decide +kernel
theorem dX6_ofWish_89 : decode cX6_ofWish 89 = .ok (.aload_n 0, 1) := by decide +kernel
theorem dX6_ofWish_90 : decode cX6_ofWish 90 = .ok (.aload_n 3, 1) := by decide +kernel
theorem dX6_ofWish_91 : decode cX6_ofWish 91 = .ok (.iconst 1, 1) := by decide +kernel
theorem dX6_ofWish_92 : decode cX6_ofWish 92 = .ok (.invokevirtual 239, 3) := by decide +kernel
theorem dX6_ofWish_95 : decode cX6_ofWish 95 = .ok (.ireturn, 1) := by decide +kernel
theorem dX6_ofWish_96 : decode cX6_ofWish 96 = .ok (.aload_n 3, 1) := by decide +kernel
theorem dX6_ofWish_97 : decode cX6_ofWish 97 = .ok (.invokevirtual 91, 3) := by decide +kernel
theorem dX6_ofWish_100 : decode cX6_ofWish 100 = .ok (.ireturn, 1) := by decide +kernel
theorem dX6_ofWish_101 : decode cX6_ofWish 101 = .ok (.aload_n 3, 1) := by decide +kernel
theorem dX6_ofWish_102 : decode cX6_ofWish 102 = .ok (.invokevirtual 206, 3) := by decide +kernel
theorem dX6_ofWish_105 : decode cX6_ofWish 105 = .ok (.ireturn, 1) := by decide +kernel
theorem dX6_ofWish_106 : decode cX6_ofWish 106 = .ok (.aload_n 3, 1) := by decide +kernel
theorem dX6_ofWish_107 : decode cX6_ofWish 107 = .ok (.invokevirtual 242, 3) := by decide +kernel
theorem dX6_ofWish_110 : decode cX6_ofWish 110 = .ok (.invokestatic 235, 3) := by decide +kernel
theorem dX6_ofWish_113 : decode cX6_ofWish 113 = .ok (.ireturn, 1) := by decide +kernel
theorem dX6_ofWish_114 : decode cX6_ofWish 114 = .ok (.new 29, 3) := by decide +kernel
theorem dX6_ofWish_117 : decode cX6_ofWish 117 = .ok (.dup, 1) := by decide +kernel
theorem dX6_ofWish_118 : decode cX6_ofWish 118 = .ok (.ldc 245, 2) := by decide +kernel
theorem dX6_ofWish_120 : decode cX6_ofWish 120 = .ok (.invokespecial 33, 3) := by decide +kernel
theorem dX6_ofWish_123 : decode cX6_ofWish 123 = .ok (.athrow, 1) := by decide +kernel
set_option maxRecDepth 20000 in
theorem ggX6_ofGuest_X6_guestNumbered : GoodIn wsX6_ofGuest wsX6_guestNumbered := goodIn_ca (goodIn_r _ [8, 9, 10, 11, 12, 13, 14, 15, 16, 17, 18, 19, 20, 21, 22, 23, 24, 25, 26, 27, 28, 29, 30, 31, 32, 33, 34, 35, 99, 100, 101, 102, 103, 104, 105, 106, 107, 108, 109, 110] (by decide +kernel) (by decide +kernel)) (goodIn_sub (fun _ h => List.mem_cons_of_mem _ (List.mem_append_right _ h)) (by decide +kernel))
set_option maxRecDepth 20000 in
theorem gX6_ofGuest_X6_guestNumbered : GoodIn wsX6_ofGuest (wsV RX6 129 RX6 yX6_guestNumbered wsX6_guestNumbered) := goodIn_app (goodIn_of _ (by decide +kernel)) ggX6_ofGuest_X6_guestNumbered
set_option maxRecDepth 20000 in
theorem ggX6_ofGuest_X6_giftsBy : GoodIn wsX6_ofGuest wsX6_giftsBy := goodIn_r _ [39, 40, 41, 42, 43, 44, 13, 14, 15, 16, 17, 18, 19, 20, 21, 22, 23, 24, 25, 26, 27, 28, 29, 30, 31, 32, 33, 34, 35, 45, 46, 7, 47, 99, 100, 101, 102, 103, 104, 105, 106, 107, 111, 112, 113, 114, 115, 116, 117, 118, 119, 120, 121, 122, 123, 124, 125, 126, 127, 108, 109, 110] (by decide +kernel) (by decide +kernel)
set_option maxRecDepth 20000 in
theorem gX6_ofGuest_X6_giftsBy : GoodIn wsX6_ofGuest (wsV RX6 247 RX6 yX6_giftsBy wsX6_giftsBy) := goodIn_app (goodIn_of _ (by decide +kernel)) ggX6_ofGuest_X6_giftsBy
set_option maxRecDepth 20000 in
theorem ggX6_ofGuest_X6_paidForKeptBy : GoodIn wsX6_ofGuest wsX6_paidForKeptBy := goodIn_r _ [51, 40, 41, 43, 44, 52, 13, 14, 15, 16, 17, 18, 19, 20, 21, 22, 23, 24, 25, 26, 27, 28, 29, 30, 31, 32, 33, 34, 35, 53, 54, 55, 56, 57, 58, 99, 100, 101, 102, 103, 104, 105, 106, 107, 111, 112, 113, 114, 115, 116, 117, 118, 119, 120, 121, 122, 123, 124, 125, 126, 127, 108, 109, 110] (by decide +kernel) (by decide +kernel)
set_option maxRecDepth 20000 in
theorem gX6_ofGuest_X6_paidForKeptBy : GoodIn wsX6_ofGuest (wsV RX6 251 RX6 yX6_paidForKeptBy wsX6_paidForKeptBy) := goodIn_app (goodIn_of _ (by decide +kernel)) ggX6_ofGuest_X6_paidForKeptBy
set_option maxRecDepth 20000 in
theorem ggX6_ofGuest_X6_pledgedBy : GoodIn wsX6_ofGuest wsX6_pledgedBy := goodIn_r _ [62, 63, 64, 13, 14, 15, 16, 17, 18, 19, 20, 21, 22, 23, 24, 25, 26, 27, 28, 29, 30, 31, 32, 33, 34, 35, 65, 66, 67, 68, 69, 70, 71, 72, 73, 74, 75, 99, 100, 101, 102, 103, 104, 105, 106, 107, 108, 109, 110, 128, 129, 130, 131, 132, 133, 134, 135, 136] (by decide +kernel) (by decide +kernel)
set_option maxRecDepth 20000 in
theorem gX6_ofGuest_X6_pledgedBy : GoodIn wsX6_ofGuest (wsV RX6 255 RX6 yX6_pledgedBy wsX6_pledgedBy) := goodIn_app (goodIn_of _ (by decide +kernel)) ggX6_ofGuest_X6_pledgedBy
set_option maxRecDepth 20000 in
theorem ggX6_ofGuest_X6_holdsStandingOf : GoodIn wsX6_ofGuest wsX6_holdsStandingOf := goodIn_r _ [79, 80, 81, 82, 83, 84, 13, 14, 15, 16, 17, 18, 19, 20, 21, 22, 23, 24, 25, 26, 27, 28, 29, 30, 31, 32, 33, 34, 35, 85, 86, 87, 88, 89, 90, 91, 92, 93, 94, 95, 96, 45, 46, 7, 47, 99, 100, 101, 102, 103, 104, 105, 106, 107, 111, 112, 113, 114, 115, 116, 117, 118, 119, 120, 121, 122, 123, 124, 125, 126, 127, 108, 109, 110, 128, 129, 130, 131, 132, 133, 134] (by decide +kernel) (by decide +kernel)
set_option maxRecDepth 20000 in
theorem gX6_ofGuest_X6_holdsStandingOf : GoodIn wsX6_ofGuest (wsV RX6 258 RX6 yX6_holdsStandingOf wsX6_holdsStandingOf) := goodIn_app (goodIn_of _ (by decide +kernel)) ggX6_ofGuest_X6_holdsStandingOf
theorem dX6_ofGuest_0 : decode cX6_ofGuest 0 = .ok (.aload_n 0, 1) := by decide +kernel
theorem dX6_ofGuest_1 : decode cX6_ofGuest 1 = .ok (.iload_n 1, 1) := by decide +kernel
theorem dX6_ofGuest_2 : decode cX6_ofGuest 2 = .ok (.invokevirtual 129, 3) := by decide +kernel
theorem dX6_ofGuest_5 : decode cX6_ofGuest 5 = .ok (.astore_n 3, 1) := by decide +kernel
theorem dX6_ofGuest_6 : decode cX6_ofGuest 6 = .ok (.iload_n 2, 1) := by decide +kernel
theorem dX6_ofGuest_7 : decode cX6_ofGuest 7 = .ok (.tableswitch 74 0 5 #[37, 42, 49, 55, 61, 68], 37) := by decide +kernel
theorem dX6_ofGuest_44 : decode cX6_ofGuest 44 = .ok (.aload_n 3, 1) := by decide +kernel
theorem dX6_ofGuest_45 : decode cX6_ofGuest 45 = .ok (.getfield 158, 3) := by decide +kernel
theorem dX6_ofGuest_48 : decode cX6_ofGuest 48 = .ok (.ireturn, 1) := by decide +kernel
theorem dX6_ofGuest_49 : decode cX6_ofGuest 49 = .ok (.aload_n 0, 1) := by decide +kernel
theorem dX6_ofGuest_50 : decode cX6_ofGuest 50 = .ok (.aload_n 3, 1) := by decide +kernel
theorem dX6_ofGuest_51 : decode cX6_ofGuest 51 = .ok (.iconst 0, 1) := by decide +kernel
theorem dX6_ofGuest_52 : decode cX6_ofGuest 52 = .ok (.invokevirtual 247, 3) := by decide +kernel
theorem dX6_ofGuest_55 : decode cX6_ofGuest 55 = .ok (.ireturn, 1) := by decide +kernel
theorem dX6_ofGuest_56 : decode cX6_ofGuest 56 = .ok (.aload_n 0, 1) := by decide +kernel
theorem dX6_ofGuest_57 : decode cX6_ofGuest 57 = .ok (.aload_n 3, 1) := by decide +kernel
theorem dX6_ofGuest_58 : decode cX6_ofGuest 58 = .ok (.invokevirtual 251, 3) := by decide +kernel
theorem dX6_ofGuest_61 : decode cX6_ofGuest 61 = .ok (.ireturn, 1) := by decide +kernel
theorem dX6_ofGuest_62 : decode cX6_ofGuest 62 = .ok (.aload_n 0, 1) := by decide +kernel
theorem dX6_ofGuest_63 : decode cX6_ofGuest 63 = .ok (.aload_n 3, 1) := by decide +kernel
theorem dX6_ofGuest_64 : decode cX6_ofGuest 64 = .ok (.invokevirtual 255, 3) := by decide +kernel
theorem dX6_ofGuest_67 : decode cX6_ofGuest 67 = .ok (.ireturn, 1) := by decide +kernel
theorem dX6_ofGuest_68 : decode cX6_ofGuest 68 = .ok (.aload_n 0, 1) := by decide +kernel
theorem dX6_ofGuest_69 : decode cX6_ofGuest 69 = .ok (.aload_n 3, 1) := by decide +kernel
theorem dX6_ofGuest_70 : decode cX6_ofGuest 70 = .ok (.iconst 1, 1) := by decide +kernel
theorem dX6_ofGuest_71 : decode cX6_ofGuest 71 = .ok (.invokevirtual 247, 3) := by decide +kernel
theorem dX6_ofGuest_74 : decode cX6_ofGuest 74 = .ok (.ireturn, 1) := by decide +kernel
theorem dX6_ofGuest_75 : decode cX6_ofGuest 75 = .ok (.aload_n 0, 1) := by decide +kernel
theorem dX6_ofGuest_76 : decode cX6_ofGuest 76 = .ok (.aload_n 3, 1) := by decide +kernel
theorem dX6_ofGuest_77 : decode cX6_ofGuest 77 = .ok (.invokevirtual 258, 3) := by decide +kernel
theorem dX6_ofGuest_80 : decode cX6_ofGuest 80 = .ok (.ireturn, 1) := by decide +kernel
theorem dX6_ofGuest_81 : decode cX6_ofGuest 81 = .ok (.new 29, 3) := by decide +kernel
theorem dX6_ofGuest_84 : decode cX6_ofGuest 84 = .ok (.dup, 1) := by decide +kernel
theorem dX6_ofGuest_85 : decode cX6_ofGuest 85 = .ok (.ldc_w 261, 3) := by decide +kernel
theorem dX6_ofGuest_88 : decode cX6_ofGuest 88 = .ok (.invokespecial 33, 3) := by decide +kernel
theorem dX6_ofGuest_91 : decode cX6_ofGuest 91 = .ok (.athrow, 1) := by decide +kernel
set_option maxRecDepth 20000 in
theorem ggX6_left_X6_checkTill : GoodIn wsX6_left wsX6_checkTill := goodIn_ca (goodIn_r _ [4, 5, 6] (by decide +kernel) (by decide +kernel)) (goodIn_sub (fun _ h => List.mem_cons_of_mem _ (List.mem_append_right _ h)) (by decide +kernel))
set_option maxRecDepth 20000 in
theorem gX6_left_X6_checkTill : GoodIn wsX6_left (va_wsS RX6 101 yX6_checkTill wsX6_checkTill) := goodIn_app (goodIn_of _ (by decide +kernel)) ggX6_left_X6_checkTill
set_option maxRecDepth 20000 in
theorem ggX6_left_X6_wishNumbered : GoodIn wsX6_left wsX6_wishNumbered := goodIn_ca (goodIn_r _ [10, 5, 6, 11, 12, 13, 14, 15, 16, 17, 18, 19, 20, 21, 22, 23, 24, 25, 26, 27, 28, 29, 30, 31, 32, 33, 34, 35, 87, 88, 89, 90, 91, 92, 93, 94, 95, 96, 97, 98] (by decide +kernel) (by decide +kernel)) (goodIn_sub (fun _ h => List.mem_cons_of_mem _ (List.mem_append_right _ h)) (by decide +kernel))
set_option maxRecDepth 20000 in
theorem gX6_left_X6_wishNumbered : GoodIn wsX6_left (wsV RX6 74 RX6 yX6_wishNumbered wsX6_wishNumbered) := goodIn_app (goodIn_of _ (by decide +kernel)) ggX6_left_X6_wishNumbered
set_option maxRecDepth 20000 in
theorem ggX6_left_X6_leftAt : GoodIn wsX6_left wsX6_leftAt := goodIn_r _ [39, 40, 41, 42, 43, 44, 45, 46, 47, 48, 49, 50, 51, 52, 53, 54, 3, 55, 56, 57, 58, 59, 13, 14, 15, 16, 17, 18, 19, 20, 21, 22, 23, 24, 25, 26, 27, 28, 29, 30, 31, 32, 33, 34, 35, 60, 61, 62, 63, 64, 65, 66, 67, 68, 69, 70, 71, 72, 73, 74, 75, 76, 77, 78, 79, 80, 81, 82, 83, 84, 85, 86, 99, 100, 101, 102, 103, 104, 105, 87, 88, 89, 90, 91, 92, 93, 94, 95, 106, 107, 108, 109, 110, 111, 112, 113, 114, 115, 116, 117, 118, 119, 120, 121, 122, 96, 97, 98] (by decide +kernel) (by decide +kernel)
set_option maxRecDepth 20000 in
theorem gX6_left_X6_leftAt : GoodIn wsX6_left (wsV RX6 137 RX6 yX6_leftAt wsX6_leftAt) := goodIn_app (goodIn_of _ (by decide +kernel)) ggX6_left_X6_leftAt
theorem dX6_left_0 : decode cX6_left 0 = .ok (.iload_n 1, 1) := by decide +kernel
theorem dX6_left_1 : decode cX6_left 1 = .ok (.invokestatic 101, 3) := by decide +kernel
theorem dX6_left_4 : decode cX6_left 4 = .ok (.aload_n 0, 1) := by decide +kernel
theorem dX6_left_5 : decode cX6_left 5 = .ok (.iload_n 1, 1) := by decide +kernel
theorem dX6_left_6 : decode cX6_left 6 = .ok (.aload_n 0, 1) := by decide +kernel
theorem dX6_left_7 : decode cX6_left 7 = .ok (.iload_n 2, 1) := by decide +kernel
theorem dX6_left_8 : decode cX6_left 8 = .ok (.invokevirtual 74, 3) := by decide +kernel
theorem dX6_left_11 : decode cX6_left 11 = .ok (.invokevirtual 137, 3) := by decide +kernel
theorem dX6_left_14 : decode cX6_left 14 = .ok (.ireturn, 1) := by decide +kernel
set_option maxRecDepth 20000 in
theorem ggX6_ofTill_X6_checkTill : GoodIn wsX6_ofTill wsX6_checkTill := goodIn_ca (goodIn_r _ [6, 7, 8] (by decide +kernel) (by decide +kernel)) (goodIn_sub (fun _ h => List.mem_cons_of_mem _ (List.mem_append_right _ h)) (by decide +kernel))
set_option maxRecDepth 20000 in
theorem gX6_ofTill_X6_checkTill : GoodIn wsX6_ofTill (va_wsS RX6 101 yX6_checkTill wsX6_checkTill) := goodIn_app (goodIn_of _ (by decide +kernel)) ggX6_ofTill_X6_checkTill
set_option maxRecDepth 20000 in
theorem ggX6_ofTill_X6_isJoined : GoodIn wsX6_ofTill wsX6_isJoined := goodIn_r _ [12, 13, 168, 169, 170, 171, 172, 173, 174, 175, 176] (by decide +kernel) (by decide +kernel)
set_option maxRecDepth 20000 in
theorem gX6_ofTill_X6_isJoined : GoodIn wsX6_ofTill (wsV RX6 105 RX6 yX6_isJoined wsX6_isJoined) := goodIn_app (goodIn_of _ (by decide +kernel)) ggX6_ofTill_X6_isJoined
set_option maxRecDepth 20000 in
theorem ggX6_ofTill_X6_oneIf : GoodIn wsX6_ofTill wsX6_oneIf := goodIn_r _ [16] (by decide +kernel) (by decide +kernel)
set_option maxRecDepth 20000 in
theorem gX6_ofTill_X6_oneIf : GoodIn wsX6_ofTill (va_wsS RX6 235 yX6_oneIf wsX6_oneIf) := goodIn_app (goodIn_of _ (by decide +kernel)) ggX6_ofTill_X6_oneIf
set_option maxRecDepth 20000 in
theorem ggX6_ofTill_X6_keptBoughtAt : GoodIn wsX6_ofTill wsX6_keptBoughtAt := goodIn_r _ [20, 21, 22, 23, 24, 25, 26, 27, 28, 29, 30, 31, 32, 33, 34, 35, 36, 37, 38, 39, 40, 41, 42, 43, 44, 45, 46, 47, 48, 49, 50, 51, 52, 53, 14, 15, 5, 16, 168, 169, 170, 171, 172, 173, 174, 175, 176, 177, 178, 179, 180, 181, 182, 183, 184, 185, 186, 187, 188, 189, 190, 191, 192, 193, 194, 195, 196] (by decide +kernel) (by decide +kernel)
set_option maxRecDepth 20000 in
theorem gX6_ofTill_X6_keptBoughtAt : GoodIn wsX6_ofTill (wsV RX6 263 RX6 yX6_keptBoughtAt wsX6_keptBoughtAt) := goodIn_app (goodIn_of _ (by decide +kernel)) ggX6_ofTill_X6_keptBoughtAt
set_option maxRecDepth 20000 in
theorem ggX6_ofTill_X6_holdsStandingSeenAt : GoodIn wsX6_ofTill wsX6_holdsStandingSeenAt := goodIn_r _ [57, 58, 59, 60, 25, 26, 27, 28, 29, 30, 31, 32, 33, 34, 35, 36, 37, 38, 39, 40, 41, 42, 43, 44, 45, 46, 47, 61, 62, 63, 64, 65, 66, 67, 68, 69, 70, 71, 72, 73, 74, 75, 76, 77, 78, 79, 14, 15, 5, 16, 168, 169, 170, 171, 172, 173, 174, 175, 176, 194, 195, 196, 186, 187, 188, 189, 190, 191, 192, 193, 177, 178, 179, 180, 181, 182, 183, 184, 185, 197, 198, 199, 200, 201, 202, 203] (by decide +kernel) (by decide +kernel)
set_option maxRecDepth 20000 in
theorem gX6_ofTill_X6_holdsStandingSeenAt : GoodIn wsX6_ofTill (wsV RX6 266 RX6 yX6_holdsStandingSeenAt wsX6_holdsStandingSeenAt) := goodIn_app (goodIn_of _ (by decide +kernel)) ggX6_ofTill_X6_holdsStandingSeenAt
set_option maxRecDepth 20000 in
theorem ggX6_ofTill_X6_keptSeenAt : GoodIn wsX6_ofTill wsX6_keptSeenAt := goodIn_r _ [83, 21, 22, 25, 26, 27, 28, 29, 30, 31, 32, 33, 34, 35, 36, 37, 38, 39, 40, 41, 42, 43, 44, 45, 46, 47, 48, 49, 50, 51, 52, 53, 84, 85, 86, 76, 77, 78, 79, 14, 15, 5, 16, 168, 169, 170, 171, 172, 173, 174, 175, 176, 194, 195, 196, 177, 178, 179, 180, 181, 182, 183, 184, 185, 186, 187, 188, 189, 190, 191, 192, 193] (by decide +kernel) (by decide +kernel)
set_option maxRecDepth 20000 in
theorem gX6_ofTill_X6_keptSeenAt : GoodIn wsX6_ofTill (wsV RX6 269 RX6 yX6_keptSeenAt wsX6_keptSeenAt) := goodIn_app (goodIn_of _ (by decide +kernel)) ggX6_ofTill_X6_keptSeenAt
set_option maxRecDepth 20000 in
theorem ggX6_ofTill_X6_takeStock : GoodIn wsX6_ofTill wsX6_takeStock := goodIn_r _ [90, 91, 92, 93, 25, 26, 27, 28, 29, 30, 31, 32, 33, 34, 35, 36, 37, 38, 39, 40, 41, 42, 43, 44, 45, 46, 47, 94, 95, 96, 5, 97, 98, 99, 100, 58, 59, 101, 68, 60, 102, 103, 104, 105, 106, 107, 108, 109, 21, 22, 110, 111, 48, 49, 50, 51, 52, 53, 84, 85, 86, 76, 77, 78, 79, 61, 62, 63, 64, 65, 66, 67, 69, 70, 71, 72, 73, 74, 75, 168, 169, 170, 171, 172, 173, 174, 175, 176, 197, 198, 199, 200, 201, 202, 203, 194, 195, 196, 177, 178, 179, 180, 181, 182, 183, 184, 185, 186, 187, 188, 189, 190, 191, 192, 193] (by decide +kernel) (by decide +kernel)
set_option maxRecDepth 20000 in
theorem gX6_ofTill_X6_takeStock : GoodIn wsX6_ofTill (wsV RX6 272 RX6 yX6_takeStock wsX6_takeStock) := goodIn_app (goodIn_of _ (by decide +kernel)) ggX6_ofTill_X6_takeStock
set_option maxRecDepth 20000 in
theorem ggX6_ofTill_X6_guestsWithoutPart : GoodIn wsX6_ofTill wsX6_guestsWithoutPart := goodIn_r _ [115, 116, 117, 25, 26, 27, 28, 29, 30, 31, 32, 33, 34, 35, 36, 37, 38, 39, 40, 41, 42, 43, 44, 45, 46, 47, 118, 119, 120, 5, 121, 21, 22, 122, 123, 124, 14, 15, 16, 125, 126, 127, 128, 91, 92, 129, 130, 131, 132, 133, 134, 135, 136, 137, 138, 139, 168, 169, 170, 171, 172, 173, 174, 175, 176, 194, 195, 196, 177, 178, 179, 180, 181, 182, 183, 184, 185, 186, 187, 188, 189, 190, 191, 192, 193, 197, 198, 199, 200, 201, 202, 203, 204, 205] (by decide +kernel) (by decide +kernel)
set_option maxRecDepth 20000 in
theorem gX6_ofTill_X6_guestsWithoutPart : GoodIn wsX6_ofTill (wsV RX6 275 RX6 yX6_guestsWithoutPart wsX6_guestsWithoutPart) := goodIn_app (goodIn_of _ (by decide +kernel)) ggX6_ofTill_X6_guestsWithoutPart
set_option maxRecDepth 20000 in
theorem ggX6_ofTill_X6_fillBy : GoodIn wsX6_ofTill wsX6_fillBy := goodIn_r _ [143, 116, 117, 144, 145, 146, 104, 147, 148, 149, 150, 151, 152, 153, 154, 25, 26, 27, 28, 29, 30, 31, 32, 33, 34, 35, 36, 37, 38, 39, 40, 41, 42, 43, 44, 45, 46, 47, 155, 156, 157, 5, 158, 159, 160, 161, 162, 91, 92, 163, 93, 168, 169, 170, 171, 172, 173, 174, 175, 176, 206, 207, 194, 195, 196, 197, 198, 199, 200, 201, 202, 203] (by decide +kernel) (by decide +kernel)
set_option maxRecDepth 20000 in
theorem gX6_ofTill_X6_fillBy : GoodIn wsX6_ofTill (wsV RX6 278 RX6 yX6_fillBy wsX6_fillBy) := goodIn_app (goodIn_of _ (by decide +kernel)) ggX6_ofTill_X6_fillBy
set_option maxRecDepth 20000 in
theorem ggX6_ofTill_X6_allLeftAt : GoodIn wsX6_ofTill wsX6_allLeftAt := goodIn_r _ [167, 91, 92, 25, 26, 27, 28, 29, 30, 31, 32, 33, 34, 35, 36, 37, 38, 39, 40, 41, 42, 43, 44, 45, 46, 47, 94, 95, 96, 5, 97, 98, 99, 100, 58, 59, 101, 68, 60, 102, 103, 104, 105, 106, 107, 108, 109, 21, 22, 110, 111, 48, 49, 50, 51, 52, 53, 84, 85, 86, 76, 77, 78, 79, 61, 62, 63, 64, 65, 66, 67, 69, 70, 71, 72, 73, 74, 75, 168, 169, 170, 171, 172, 173, 174, 175, 176, 194, 195, 196, 197, 198, 199, 200, 201, 202, 203, 177, 178, 179, 180, 181, 182, 183, 184, 185, 186, 187, 188, 189, 190, 191, 192, 193] (by decide +kernel) (by decide +kernel)
set_option maxRecDepth 20000 in
theorem gX6_ofTill_X6_allLeftAt : GoodIn wsX6_ofTill (wsV RX6 281 RX6 yX6_allLeftAt wsX6_allLeftAt) := goodIn_app (goodIn_of _ (by decide +kernel)) ggX6_ofTill_X6_allLeftAt
theorem dX6_ofTill_0 : decode cX6_ofTill 0 = .ok (.iload_n 1, 1) := by decide +kernel
theorem dX6_ofTill_1 : decode cX6_ofTill 1 = .ok (.invokestatic 101, 3) := by decide +kernel
theorem dX6_ofTill_4 : decode cX6_ofTill 4 = .ok (.iload_n 2, 1) := by decide +kernel
theorem dX6_ofTill_5 : decode cX6_ofTill 5 = .ok (.tableswitch 87 0 5 #[39, 48, 54, 60, 66, 81], 39) := by decide +kernel
theorem dX6_ofTill_44 : decode cX6_ofTill 44 = .ok (.aload_n 0, 1) := by decide +kernel
theorem dX6_ofTill_45 : decode cX6_ofTill 45 = .ok (.iload_n 1, 1) := by decide +kernel
theorem dX6_ofTill_46 : decode cX6_ofTill 46 = .ok (.invokevirtual 105, 3) := by decide +kernel
theorem dX6_ofTill_49 : decode cX6_ofTill 49 = .ok (.invokestatic 235, 3) := by decide +kernel
theorem dX6_ofTill_52 : decode cX6_ofTill 52 = .ok (.ireturn, 1) := by decide +kernel
theorem dX6_ofTill_53 : decode cX6_ofTill 53 = .ok (.aload_n 0, 1) := by decide +kernel
theorem dX6_ofTill_54 : decode cX6_ofTill 54 = .ok (.iload_n 1, 1) := by decide +kernel
theorem dX6_ofTill_55 : decode cX6_ofTill 55 = .ok (.invokevirtual 263, 3) := by decide +kernel
theorem dX6_ofTill_58 : decode cX6_ofTill 58 = .ok (.ireturn, 1) := by decide +kernel
theorem dX6_ofTill_59 : decode cX6_ofTill 59 = .ok (.aload_n 0, 1) := by decide +kernel
theorem dX6_ofTill_60 : decode cX6_ofTill 60 = .ok (.iload_n 1, 1) := by decide +kernel
theorem dX6_ofTill_61 : decode cX6_ofTill 61 = .ok (.invokevirtual 266, 3) := by decide +kernel
theorem dX6_ofTill_64 : decode cX6_ofTill 64 = .ok (.ireturn, 1) := by decide +kernel
theorem dX6_ofTill_65 : decode cX6_ofTill 65 = .ok (.aload_n 0, 1) := by decide +kernel
theorem dX6_ofTill_66 : decode cX6_ofTill 66 = .ok (.iload_n 1, 1) := by decide +kernel
theorem dX6_ofTill_67 : decode cX6_ofTill 67 = .ok (.invokevirtual 269, 3) := by decide +kernel
theorem dX6_ofTill_70 : decode cX6_ofTill 70 = .ok (.ireturn, 1) := by decide +kernel
theorem dX6_ofTill_71 : decode cX6_ofTill 71 = .ok (.aload_n 0, 1) := by decide +kernel
theorem dX6_ofTill_72 : decode cX6_ofTill 72 = .ok (.iload_n 1, 1) := by decide +kernel
theorem dX6_ofTill_73 : decode cX6_ofTill 73 = .ok (.invokevirtual 272, 3) := by decide +kernel
theorem dX6_ofTill_76 : decode cX6_ofTill 76 = .ok (.aload_n 0, 1) := by decide +kernel
theorem dX6_ofTill_77 : decode cX6_ofTill 77 = .ok (.aload_n 0, 1) := by decide +kernel
theorem dX6_ofTill_78 : decode cX6_ofTill 78 = .ok (.invokevirtual 275, 3) := by decide +kernel
theorem dX6_ofTill_81 : decode cX6_ofTill 81 = .ok (.iconst (-1), 1) := by decide +kernel
theorem dX6_ofTill_82 : decode cX6_ofTill 82 = .ok (.invokevirtual 278, 3) := by decide +kernel
theorem dX6_ofTill_85 : decode cX6_ofTill 85 = .ok (.ireturn, 1) := by decide +kernel
theorem dX6_ofTill_86 : decode cX6_ofTill 86 = .ok (.aload_n 0, 1) := by decide +kernel
theorem dX6_ofTill_87 : decode cX6_ofTill 87 = .ok (.iload_n 1, 1) := by decide +kernel
theorem dX6_ofTill_88 : decode cX6_ofTill 88 = .ok (.invokevirtual 281, 3) := by decide +kernel
theorem dX6_ofTill_91 : decode cX6_ofTill 91 = .ok (.ireturn, 1) := by decide +kernel
theorem dX6_ofTill_92 : decode cX6_ofTill 92 = .ok (.new 29, 3) := by decide +kernel
theorem dX6_ofTill_95 : decode cX6_ofTill 95 = .ok (.dup, 1) := by decide +kernel
end
section
theorem dX6_ofTill_96 : decode cX6_ofTill 96 = .ok (.ldc_w 261, 3) := by decide +kernel
theorem dX6_ofTill_99 : decode cX6_ofTill 99 = .ok (.invokespecial 33, 3) := by decide +kernel
theorem dX6_ofTill_102 : decode cX6_ofTill 102 = .ok (.athrow, 1) := by decide +kernel
set_option maxRecDepth 20000 in
theorem ggX6_ofGift_Jx4a65c_size_8abf5 : GoodIn wsX6_ofGift wsJx4a65c_size_8abf5 := goodIn_r _ [23, 24, 77, 78, 79] (by decide +kernel) (by decide +kernel)
set_option maxRecDepth 20000 in
theorem gX6_ofGift_Jx4a65c_size_8abf5 : GoodIn wsX6_ofGift (wsV RX6 47 RJx4a65c yJx4a65c_size_8abf5 wsJx4a65c_size_8abf5) := goodIn_app (goodIn_of _ (by decide +kernel)) ggX6_ofGift_Jx4a65c_size_8abf5
set_option maxRecDepth 20000 in
theorem ggX6_ofGift_Jx4a65c_get_915e3 : GoodIn wsX6_ofGift wsJx4a65c_get_915e3 := goodIn_r _ [28, 24, 29, 30, 31, 32, 33, 34, 35, 36, 37, 38, 39, 22, 40, 41, 77, 78, 79] (by decide +kernel) (by decide +kernel)
set_option maxRecDepth 20000 in
theorem gX6_ofGift_Jx4a65c_get_915e3 : GoodIn wsX6_ofGift (wsV RX6 122 RJx4a65c yJx4a65c_get_915e3 wsJx4a65c_get_915e3) := goodIn_app (goodIn_of _ (by decide +kernel)) ggX6_ofGift_Jx4a65c_get_915e3
theorem dX6_ofGift_0 : decode cX6_ofGift 0 = .ok (.iload_n 1, 1) := by decide +kernel
theorem dX6_ofGift_1 : decode cX6_ofGift 1 = .ok (.ifCond .lt 14, 3) := by decide +kernel
theorem dX6_ofGift_4 : decode cX6_ofGift 4 = .ok (.iload_n 1, 1) := by decide +kernel
theorem dX6_ofGift_5 : decode cX6_ofGift 5 = .ok (.aload_n 0, 1) := by decide +kernel
theorem dX6_ofGift_6 : decode cX6_ofGift 6 = .ok (.getfield 19, 3) := by decide +kernel
theorem dX6_ofGift_9 : decode cX6_ofGift 9 = .ok (.invokevirtual 47, 3) := by decide +kernel
theorem dX6_ofGift_12 : decode cX6_ofGift 12 = .ok (.if_icmp .lt 13, 3) := by decide +kernel
theorem dX6_ofGift_15 : decode cX6_ofGift 15 = .ok (.new 284, 3) := by decide +kernel
theorem dX6_ofGift_18 : decode cX6_ofGift 18 = .ok (.dup, 1) := by decide +kernel
theorem dX6_ofGift_19 : decode cX6_ofGift 19 = .ok (.ldc 198, 2) := by decide +kernel
theorem dX6_ofGift_21 : decode cX6_ofGift 21 = .ok (.invokespecial 286, 3) := by decide +kernel
theorem dX6_ofGift_24 : decode cX6_ofGift 24 = .ok (.athrow, 1) := by decide +kernel
theorem dX6_ofGift_25 : decode cX6_ofGift 25 = .ok (.aload_n 0, 1) := by decide +kernel
theorem dX6_ofGift_26 : decode cX6_ofGift 26 = .ok (.getfield 19, 3) := by decide +kernel
theorem dX6_ofGift_29 : decode cX6_ofGift 29 = .ok (.iload_n 1, 1) := by decide +kernel
theorem dX6_ofGift_30 : decode cX6_ofGift 30 = .ok (.invokevirtual 122, 3) := by decide +kernel
theorem dX6_ofGift_33 : decode cX6_ofGift 33 = .ok (.checkcast 171, 3) := by decide +kernel
theorem dX6_ofGift_36 : decode cX6_ofGift 36 = .ok (.astore_n 3, 1) := by decide +kernel
theorem dX6_ofGift_37 : decode cX6_ofGift 37 = .ok (.iload_n 2, 1) := by decide +kernel
theorem dX6_ofGift_38 : decode cX6_ofGift 38 = .ok (.tableswitch 74 0 5 #[38, 46, 54, 59, 64, 69], 38) := by decide +kernel
theorem dX6_ofGift_76 : decode cX6_ofGift 76 = .ok (.aload_n 3, 1) := by decide +kernel
theorem dX6_ofGift_77 : decode cX6_ofGift 77 = .ok (.getfield 185, 3) := by decide +kernel
theorem dX6_ofGift_80 : decode cX6_ofGift 80 = .ok (.getfield 287, 3) := by decide +kernel
theorem dX6_ofGift_83 : decode cX6_ofGift 83 = .ok (.ireturn, 1) := by decide +kernel
theorem dX6_ofGift_84 : decode cX6_ofGift 84 = .ok (.aload_n 3, 1) := by decide +kernel
theorem dX6_ofGift_85 : decode cX6_ofGift 85 = .ok (.getfield 181, 3) := by decide +kernel
theorem dX6_ofGift_88 : decode cX6_ofGift 88 = .ok (.getfield 290, 3) := by decide +kernel
theorem dX6_ofGift_91 : decode cX6_ofGift 91 = .ok (.ireturn, 1) := by decide +kernel
theorem dX6_ofGift_92 : decode cX6_ofGift 92 = .ok (.aload_n 3, 1) := by decide +kernel
theorem dX6_ofGift_93 : decode cX6_ofGift 93 = .ok (.getfield 291, 3) := by decide +kernel
theorem dX6_ofGift_96 : decode cX6_ofGift 96 = .ok (.ireturn, 1) := by decide +kernel
theorem dX6_ofGift_97 : decode cX6_ofGift 97 = .ok (.aload_n 3, 1) := by decide +kernel
theorem dX6_ofGift_98 : decode cX6_ofGift 98 = .ok (.getfield 189, 3) := by decide +kernel
theorem dX6_ofGift_101 : decode cX6_ofGift 101 = .ok (.ireturn, 1) := by decide +kernel
theorem dX6_ofGift_102 : decode cX6_ofGift 102 = .ok (.aload_n 3, 1) := by decide +kernel
theorem dX6_ofGift_103 : decode cX6_ofGift 103 = .ok (.getfield 294, 3) := by decide +kernel
theorem dX6_ofGift_106 : decode cX6_ofGift 106 = .ok (.ireturn, 1) := by decide +kernel
theorem dX6_ofGift_107 : decode cX6_ofGift 107 = .ok (.aload_n 3, 1) := by decide +kernel
theorem dX6_ofGift_108 : decode cX6_ofGift 108 = .ok (.getfield 297, 3) := by decide +kernel
theorem dX6_ofGift_111 : decode cX6_ofGift 111 = .ok (.ireturn, 1) := by decide +kernel
theorem dX6_ofGift_112 : decode cX6_ofGift 112 = .ok (.new 29, 3) := by decide +kernel
theorem dX6_ofGift_115 : decode cX6_ofGift 115 = .ok (.dup, 1) := by decide +kernel
theorem dX6_ofGift_116 : decode cX6_ofGift 116 = .ok (.ldc_w 261, 3) := by decide +kernel
theorem dX6_ofGift_119 : decode cX6_ofGift 119 = .ok (.invokespecial 33, 3) := by decide +kernel
theorem dX6_ofGift_122 : decode cX6_ofGift 122 = .ok (.athrow, 1) := by decide +kernel
set_option maxRecDepth 20000 in
theorem ggX6_shop_Jx4a65c_size_8abf5 : GoodIn wsX6_shop wsJx4a65c_size_8abf5 := goodIn_r _ [15, 16, 70, 71, 72] (by decide +kernel) (by decide +kernel)
set_option maxRecDepth 20000 in
theorem gX6_shop_Jx4a65c_size_8abf5 : GoodIn wsX6_shop (wsV RX6 47 RJx4a65c yJx4a65c_size_8abf5 wsJx4a65c_size_8abf5) := goodIn_app (goodIn_of _ (by decide +kernel)) ggX6_shop_Jx4a65c_size_8abf5
set_option maxRecDepth 20000 in
theorem ggX6_shop_X6_giftsNow : GoodIn wsX6_shop wsX6_giftsNow := goodIn_r _ [21, 6, 22, 23, 11, 12, 13, 14, 15, 16, 24, 25, 26, 27, 28, 29, 30, 31, 32, 33, 34, 35, 36, 37, 38, 39, 40, 41, 42, 20, 43, 61, 62, 63, 64, 65, 66, 67, 68, 69, 73, 74, 75, 76, 77, 78, 79, 80, 81, 70, 71, 72] (by decide +kernel) (by decide +kernel)
set_option maxRecDepth 20000 in
theorem gX6_shop_X6_giftsNow : GoodIn wsX6_shop (wsV RX6 300 RX6 yX6_giftsNow wsX6_giftsNow) := goodIn_app (goodIn_of _ (by decide +kernel)) ggX6_shop_X6_giftsNow
set_option maxRecDepth 20000 in
theorem ggX6_shop_X6_holdsStanding : GoodIn wsX6_shop wsX6_holdsStanding := goodIn_r _ [47, 9, 48, 3, 11, 12, 13, 14, 15, 16, 24, 25, 26, 27, 28, 29, 30, 31, 32, 33, 34, 35, 36, 37, 38, 39, 40, 49, 50, 51, 52, 53, 54, 55, 56, 57, 58, 59, 60, 41, 42, 20, 43, 61, 62, 63, 64, 65, 66, 67, 68, 69, 70, 71, 72, 82, 83, 84, 85, 86, 87, 88, 89, 73, 74, 75, 76, 77, 78, 79, 80, 81, 90, 91, 92, 93, 94, 95, 96] (by decide +kernel) (by decide +kernel)
set_option maxRecDepth 20000 in
theorem gX6_shop_X6_holdsStanding : GoodIn wsX6_shop (wsV RX6 226 RX6 yX6_holdsStanding wsX6_holdsStanding) := goodIn_app (goodIn_of _ (by decide +kernel)) ggX6_shop_X6_holdsStanding
set_option maxRecDepth 20000 in
theorem ggX6_shop_X6_oneIf : GoodIn wsX6_shop wsX6_oneIf := goodIn_r _ [43] (by decide +kernel) (by decide +kernel)
set_option maxRecDepth 20000 in
theorem gX6_shop_X6_oneIf : GoodIn wsX6_shop (va_wsS RX6 235 yX6_oneIf wsX6_oneIf) := goodIn_app (goodIn_of _ (by decide +kernel)) ggX6_shop_X6_oneIf
theorem dX6_shop_0 : decode cX6_shop 0 = .ok (.iload_n 1, 1) := by decide +kernel
theorem dX6_shop_1 : decode cX6_shop 1 = .ok (.tableswitch 141 0 11 #[63, 68, 76, 84, 92, 98, 104, 110, 115, 120, 128, 133], 63) := by decide +kernel
theorem dX6_shop_64 : decode cX6_shop 64 = .ok (.aload_n 0, 1) := by decide +kernel
theorem dX6_shop_65 : decode cX6_shop 65 = .ok (.getfield 145, 3) := by decide +kernel
theorem dX6_shop_68 : decode cX6_shop 68 = .ok (.ireturn, 1) := by decide +kernel
theorem dX6_shop_69 : decode cX6_shop 69 = .ok (.aload_n 0, 1) := by decide +kernel
theorem dX6_shop_70 : decode cX6_shop 70 = .ok (.getfield 12, 3) := by decide +kernel
theorem dX6_shop_73 : decode cX6_shop 73 = .ok (.invokevirtual 47, 3) := by decide +kernel
theorem dX6_shop_76 : decode cX6_shop 76 = .ok (.ireturn, 1) := by decide +kernel
theorem dX6_shop_77 : decode cX6_shop 77 = .ok (.aload_n 0, 1) := by decide +kernel
theorem dX6_shop_78 : decode cX6_shop 78 = .ok (.getfield 16, 3) := by decide +kernel
theorem dX6_shop_81 : decode cX6_shop 81 = .ok (.invokevirtual 47, 3) := by decide +kernel
theorem dX6_shop_84 : decode cX6_shop 84 = .ok (.ireturn, 1) := by decide +kernel
theorem dX6_shop_85 : decode cX6_shop 85 = .ok (.aload_n 0, 1) := by decide +kernel
theorem dX6_shop_86 : decode cX6_shop 86 = .ok (.getfield 19, 3) := by decide +kernel
theorem dX6_shop_89 : decode cX6_shop 89 = .ok (.invokevirtual 47, 3) := by decide +kernel
theorem dX6_shop_92 : decode cX6_shop 92 = .ok (.ireturn, 1) := by decide +kernel
theorem dX6_shop_93 : decode cX6_shop 93 = .ok (.aload_n 0, 1) := by decide +kernel
theorem dX6_shop_94 : decode cX6_shop 94 = .ok (.iconst 0, 1) := by decide +kernel
theorem dX6_shop_95 : decode cX6_shop 95 = .ok (.invokevirtual 300, 3) := by decide +kernel
theorem dX6_shop_98 : decode cX6_shop 98 = .ok (.ireturn, 1) := by decide +kernel
theorem dX6_shop_99 : decode cX6_shop 99 = .ok (.aload_n 0, 1) := by decide +kernel
theorem dX6_shop_100 : decode cX6_shop 100 = .ok (.iconst 1, 1) := by decide +kernel
theorem dX6_shop_101 : decode cX6_shop 101 = .ok (.invokevirtual 300, 3) := by decide +kernel
theorem dX6_shop_104 : decode cX6_shop 104 = .ok (.ireturn, 1) := by decide +kernel
theorem dX6_shop_105 : decode cX6_shop 105 = .ok (.aload_n 0, 1) := by decide +kernel
theorem dX6_shop_106 : decode cX6_shop 106 = .ok (.iconst 2, 1) := by decide +kernel
theorem dX6_shop_107 : decode cX6_shop 107 = .ok (.invokevirtual 300, 3) := by decide +kernel
theorem dX6_shop_110 : decode cX6_shop 110 = .ok (.ireturn, 1) := by decide +kernel
theorem dX6_shop_111 : decode cX6_shop 111 = .ok (.aload_n 0, 1) := by decide +kernel
theorem dX6_shop_112 : decode cX6_shop 112 = .ok (.getfield 303, 3) := by decide +kernel
theorem dX6_shop_115 : decode cX6_shop 115 = .ok (.ireturn, 1) := by decide +kernel
theorem dX6_shop_116 : decode cX6_shop 116 = .ok (.aload_n 0, 1) := by decide +kernel
theorem dX6_shop_117 : decode cX6_shop 117 = .ok (.getfield 306, 3) := by decide +kernel
theorem dX6_shop_120 : decode cX6_shop 120 = .ok (.ireturn, 1) := by decide +kernel
theorem dX6_shop_121 : decode cX6_shop 121 = .ok (.aload_n 0, 1) := by decide +kernel
theorem dX6_shop_122 : decode cX6_shop 122 = .ok (.getfield 22, 3) := by decide +kernel
theorem dX6_shop_125 : decode cX6_shop 125 = .ok (.invokevirtual 47, 3) := by decide +kernel
theorem dX6_shop_128 : decode cX6_shop 128 = .ok (.ireturn, 1) := by decide +kernel
theorem dX6_shop_129 : decode cX6_shop 129 = .ok (.aload_n 0, 1) := by decide +kernel
theorem dX6_shop_130 : decode cX6_shop 130 = .ok (.invokevirtual 226, 3) := by decide +kernel
theorem dX6_shop_133 : decode cX6_shop 133 = .ok (.ireturn, 1) := by decide +kernel
theorem dX6_shop_134 : decode cX6_shop 134 = .ok (.aload_n 0, 1) := by decide +kernel
theorem dX6_shop_135 : decode cX6_shop 135 = .ok (.getfield 229, 3) := by decide +kernel
theorem dX6_shop_138 : decode cX6_shop 138 = .ok (.invokestatic 235, 3) := by decide +kernel
theorem dX6_shop_141 : decode cX6_shop 141 = .ok (.ireturn, 1) := by decide +kernel
theorem dX6_shop_142 : decode cX6_shop 142 = .ok (.new 29, 3) := by decide +kernel
theorem dX6_shop_145 : decode cX6_shop 145 = .ok (.dup, 1) := by decide +kernel
theorem dX6_shop_146 : decode cX6_shop 146 = .ok (.ldc_w 309, 3) := by decide +kernel
theorem dX6_shop_149 : decode cX6_shop 149 = .ok (.invokespecial 33, 3) := by decide +kernel
theorem dX6_shop_152 : decode cX6_shop 152 = .ok (.athrow, 1) := by decide +kernel
set_option maxRecDepth 20000 in
theorem ggX6_wouldTake_X6_checkTill : GoodIn wsX6_wouldTake wsX6_checkTill := goodIn_ca (goodIn_r _ [6, 7, 8] (by decide +kernel) (by decide +kernel)) (goodIn_sub (fun _ h => List.mem_cons_of_mem _ (List.mem_append_right _ h)) (by decide +kernel))
set_option maxRecDepth 20000 in
theorem gX6_wouldTake_X6_checkTill : GoodIn wsX6_wouldTake (va_wsS RX6 101 yX6_checkTill wsX6_checkTill) := goodIn_app (goodIn_of _ (by decide +kernel)) ggX6_wouldTake_X6_checkTill
set_option maxRecDepth 20000 in
theorem ggX6_wouldTake_X6_isJoined : GoodIn wsX6_wouldTake wsX6_isJoined := goodIn_r _ [12, 13, 65, 66, 67, 68, 69, 70, 71, 72, 73] (by decide +kernel) (by decide +kernel)
set_option maxRecDepth 20000 in
theorem gX6_wouldTake_X6_isJoined : GoodIn wsX6_wouldTake (wsV RX6 105 RX6 yX6_isJoined wsX6_isJoined) := goodIn_app (goodIn_of _ (by decide +kernel)) ggX6_wouldTake_X6_isJoined
set_option maxRecDepth 20000 in
theorem ggX6_wouldTake_Jx4a65c_size_8abf5 : GoodIn wsX6_wouldTake wsJx4a65c_size_8abf5 := goodIn_r _ [18, 19, 74, 75, 76] (by decide +kernel) (by decide +kernel)
set_option maxRecDepth 20000 in
theorem gX6_wouldTake_Jx4a65c_size_8abf5 : GoodIn wsX6_wouldTake (wsV RX6 47 RJx4a65c yJx4a65c_size_8abf5 wsJx4a65c_size_8abf5) := goodIn_app (goodIn_of _ (by decide +kernel)) ggX6_wouldTake_Jx4a65c_size_8abf5
set_option maxRecDepth 20000 in
theorem ggX6_wouldTake_Jx4a65c_get_915e3 : GoodIn wsX6_wouldTake wsJx4a65c_get_915e3 := goodIn_r _ [23, 19, 24, 25, 26, 27, 28, 29, 30, 31, 32, 33, 34, 17, 35, 36, 74, 75, 76] (by decide +kernel) (by decide +kernel)
set_option maxRecDepth 20000 in
theorem gX6_wouldTake_Jx4a65c_get_915e3 : GoodIn wsX6_wouldTake (wsV RX6 122 RJx4a65c yJx4a65c_get_915e3 wsJx4a65c_get_915e3) := goodIn_app (goodIn_of _ (by decide +kernel)) ggX6_wouldTake_Jx4a65c_get_915e3
set_option maxRecDepth 20000 in
theorem ggX6_wouldTake_X6_tooManyWith : GoodIn wsX6_wouldTake wsX6_tooManyWith := goodIn_r _ [40, 41, 42, 43, 44, 45, 46, 47, 48, 49, 50, 51, 14, 15, 16, 17, 18, 19, 20, 21, 22, 23, 24, 25, 26, 27, 28, 29, 30, 31, 32, 33, 34, 35, 36, 52, 53, 54, 55, 56, 57, 58, 59, 60, 61, 62, 63, 64, 65, 66, 67, 68, 69, 70, 71, 72, 73, 77, 78, 79, 80, 81, 82, 83, 84, 85, 86, 87, 88, 89, 90, 91, 92, 93, 94, 95, 96, 97, 98, 99, 100, 74, 75, 76] (by decide +kernel) (by decide +kernel)
set_option maxRecDepth 20000 in
theorem gX6_wouldTake_X6_tooManyWith : GoodIn wsX6_wouldTake (wsV RX6 334 RX6 yX6_tooManyWith wsX6_tooManyWith) := goodIn_app (goodIn_of _ (by decide +kernel)) ggX6_wouldTake_X6_tooManyWith
theorem dX6_wouldTake_0 : decode cX6_wouldTake 0 = .ok (.iload_n 1, 1) := by decide +kernel
theorem dX6_wouldTake_1 : decode cX6_wouldTake 1 = .ok (.invokestatic 101, 3) := by decide +kernel
theorem dX6_wouldTake_4 : decode cX6_wouldTake 4 = .ok (.aload_n 0, 1) := by decide +kernel
theorem dX6_wouldTake_5 : decode cX6_wouldTake 5 = .ok (.iload_n 1, 1) := by decide +kernel
theorem dX6_wouldTake_6 : decode cX6_wouldTake 6 = .ok (.invokevirtual 105, 3) := by decide +kernel
theorem dX6_wouldTake_9 : decode cX6_wouldTake 9 = .ok (.ifCond .eq 5, 3) := by decide +kernel
theorem dX6_wouldTake_12 : decode cX6_wouldTake 12 = .ok (.iconst 0, 1) := by decide +kernel
theorem dX6_wouldTake_13 : decode cX6_wouldTake 13 = .ok (.ireturn, 1) := by decide +kernel
theorem dX6_wouldTake_14 : decode cX6_wouldTake 14 = .ok (.iconst 0, 1) := by decide +kernel
theorem dX6_wouldTake_15 : decode cX6_wouldTake 15 = .ok (.istore_n 2, 1) := by decide +kernel
theorem dX6_wouldTake_16 : decode cX6_wouldTake 16 = .ok (.iconst 0, 1) := by decide +kernel
theorem dX6_wouldTake_17 : decode cX6_wouldTake 17 = .ok (.istore_n 3, 1) := by decide +kernel
theorem dX6_wouldTake_18 : decode cX6_wouldTake 18 = .ok (.iload_n 3, 1) := by decide +kernel
theorem dX6_wouldTake_19 : decode cX6_wouldTake 19 = .ok (.aload_n 0, 1) := by decide +kernel
theorem dX6_wouldTake_20 : decode cX6_wouldTake 20 = .ok (.getfield 12, 3) := by decide +kernel
theorem dX6_wouldTake_23 : decode cX6_wouldTake 23 = .ok (.invokevirtual 47, 3) := by decide +kernel
theorem dX6_wouldTake_26 : decode cX6_wouldTake 26 = .ok (.if_icmp .ge 28, 3) := by decide +kernel
theorem dX6_wouldTake_29 : decode cX6_wouldTake 29 = .ok (.iload_n 2, 1) := by decide +kernel
theorem dX6_wouldTake_30 : decode cX6_wouldTake 30 = .ok (.aload_n 0, 1) := by decide +kernel
theorem dX6_wouldTake_31 : decode cX6_wouldTake 31 = .ok (.aload_n 0, 1) := by decide +kernel
theorem dX6_wouldTake_32 : decode cX6_wouldTake 32 = .ok (.getfield 12, 3) := by decide +kernel
theorem dX6_wouldTake_35 : decode cX6_wouldTake 35 = .ok (.iload_n 3, 1) := by decide +kernel
theorem dX6_wouldTake_36 : decode cX6_wouldTake 36 = .ok (.invokevirtual 122, 3) := by decide +kernel
theorem dX6_wouldTake_39 : decode cX6_wouldTake 39 = .ok (.checkcast 56, 3) := by decide +kernel
theorem dX6_wouldTake_42 : decode cX6_wouldTake 42 = .ok (.iload_n 1, 1) := by decide +kernel
theorem dX6_wouldTake_43 : decode cX6_wouldTake 43 = .ok (.invokevirtual 334, 3) := by decide +kernel
theorem dX6_wouldTake_46 : decode cX6_wouldTake 46 = .ok (.iadd, 1) := by decide +kernel
theorem dX6_wouldTake_47 : decode cX6_wouldTake 47 = .ok (.istore_n 2, 1) := by decide +kernel
theorem dX6_wouldTake_48 : decode cX6_wouldTake 48 = .ok (.iinc 3 1, 3) := by decide +kernel
theorem dX6_wouldTake_51 : decode cX6_wouldTake 51 = .ok (.goto (-33), 3) := by decide +kernel
theorem dX6_wouldTake_54 : decode cX6_wouldTake 54 = .ok (.iload_n 2, 1) := by decide +kernel
theorem dX6_wouldTake_55 : decode cX6_wouldTake 55 = .ok (.ireturn, 1) := by decide +kernel
set_option maxRecDepth 20000 in
theorem ggX6_hint_X6_guestNumbered : GoodIn wsX6_hint wsX6_guestNumbered := goodIn_ca (goodIn_r _ [11, 12, 13, 14, 15, 16, 17, 18, 19, 20, 21, 22, 23, 24, 25, 26, 27, 28, 29, 30, 31, 32, 33, 34, 35, 36, 37, 38, 150, 151, 152, 153, 154, 155, 156, 157, 158, 166, 167, 168] (by decide +kernel) (by decide +kernel)) (goodIn_sub (fun _ h => List.mem_cons_of_mem _ (List.mem_append_right _ h)) (by decide +kernel))
set_option maxRecDepth 20000 in
theorem gX6_hint_X6_guestNumbered : GoodIn wsX6_hint (wsV RX6 129 RX6 yX6_guestNumbered wsX6_guestNumbered) := goodIn_app (goodIn_of _ (by decide +kernel)) ggX6_hint_X6_guestNumbered
set_option maxRecDepth 20000 in
theorem ggX6_hint_X6_checkTill : GoodIn wsX6_hint wsX6_checkTill := goodIn_ca (goodIn_r _ [41, 12, 13] (by decide +kernel) (by decide +kernel)) (goodIn_sub (fun _ h => List.mem_cons_of_mem _ (List.mem_append_right _ h)) (by decide +kernel))
set_option maxRecDepth 20000 in
theorem gX6_hint_X6_checkTill : GoodIn wsX6_hint (va_wsS RX6 101 yX6_checkTill wsX6_checkTill) := goodIn_app (goodIn_of _ (by decide +kernel)) ggX6_hint_X6_checkTill
set_option maxRecDepth 20000 in
theorem ggX6_hint_X6_takeStock : GoodIn wsX6_hint wsX6_takeStock := goodIn_r _ [45, 2, 3, 4, 16, 17, 18, 19, 20, 21, 22, 23, 24, 25, 26, 27, 28, 29, 30, 31, 32, 33, 34, 35, 36, 37, 38, 46, 47, 48, 10, 49, 50, 51, 52, 53, 54, 55, 56, 57, 58, 59, 60, 61, 62, 63, 64, 65, 66, 67, 68, 69, 70, 71, 72, 73, 74, 75, 76, 77, 78, 79, 80, 81, 82, 83, 84, 85, 86, 87, 88, 89, 90, 91, 92, 93, 94, 95, 96, 150, 151, 152, 153, 154, 155, 156, 157, 158, 159, 160, 161, 162, 163, 164, 165, 166, 167, 168, 169, 170, 171, 172, 173, 174, 175, 176, 177, 178, 179, 180, 181, 182, 183, 184, 185] (by decide +kernel) (by decide +kernel)
set_option maxRecDepth 20000 in
theorem gX6_hint_X6_takeStock : GoodIn wsX6_hint (wsV RX6 272 RX6 yX6_takeStock wsX6_takeStock) := goodIn_app (goodIn_of _ (by decide +kernel)) ggX6_hint_X6_takeStock
set_option maxRecDepth 20000 in
theorem ggX6_hint_X6_guestsWithoutPart : GoodIn wsX6_hint wsX6_guestsWithoutPart := goodIn_r _ [100, 14, 15, 16, 17, 18, 19, 20, 21, 22, 23, 24, 25, 26, 27, 28, 29, 30, 31, 32, 33, 34, 35, 36, 37, 38, 101, 102, 103, 10, 104, 66, 67, 105, 106, 107, 108, 109, 110, 111, 112, 113, 114, 2, 3, 115, 116, 117, 118, 119, 120, 121, 122, 123, 124, 125, 150, 151, 152, 153, 154, 155, 156, 157, 158, 166, 167, 168, 169, 170, 171, 172, 173, 174, 175, 176, 177, 178, 179, 180, 181, 182, 183, 184, 185, 159, 160, 161, 162, 163, 164, 165, 186, 187] (by decide +kernel) (by decide +kernel)
set_option maxRecDepth 20000 in
theorem gX6_hint_X6_guestsWithoutPart : GoodIn wsX6_hint (wsV RX6 275 RX6 yX6_guestsWithoutPart wsX6_guestsWithoutPart) := goodIn_app (goodIn_of _ (by decide +kernel)) ggX6_hint_X6_guestsWithoutPart
set_option maxRecDepth 20000 in
theorem ggX6_hint_X6_fillBy : GoodIn wsX6_hint wsX6_fillBy := goodIn_r _ [129, 14, 15, 6, 130, 131, 60, 132, 133, 134, 135, 136, 137, 138, 139, 16, 17, 18, 19, 20, 21, 22, 23, 24, 25, 26, 27, 28, 29, 30, 31, 32, 33, 34, 35, 36, 37, 38, 140, 141, 142, 10, 143, 144, 145, 146, 147, 2, 3, 5, 4, 150, 151, 152, 153, 154, 155, 156, 157, 158, 148, 149, 166, 167, 168, 159, 160, 161, 162, 163, 164, 165] (by decide +kernel) (by decide +kernel)
set_option maxRecDepth 20000 in
theorem gX6_hint_X6_fillBy : GoodIn wsX6_hint (wsV RX6 278 RX6 yX6_fillBy wsX6_fillBy) := goodIn_app (goodIn_of _ (by decide +kernel)) ggX6_hint_X6_fillBy
set_option maxRecDepth 20000 in
theorem ggX6_hint_Jx4a65c_size_8abf5 : GoodIn wsX6_hint wsJx4a65c_size_8abf5 := goodIn_r _ [20, 21, 166, 167, 168] (by decide +kernel) (by decide +kernel)
set_option maxRecDepth 20000 in
theorem gX6_hint_Jx4a65c_size_8abf5 : GoodIn wsX6_hint (wsV RX6 47 RJx4a65c yJx4a65c_size_8abf5 wsJx4a65c_size_8abf5) := goodIn_app (goodIn_of _ (by decide +kernel)) ggX6_hint_Jx4a65c_size_8abf5
set_option maxRecDepth 20000 in
theorem ggX6_hint_Jx4a65c_get_915e3 : GoodIn wsX6_hint wsJx4a65c_get_915e3 := goodIn_r _ [25, 21, 26, 27, 28, 29, 30, 31, 32, 33, 34, 35, 36, 19, 37, 38, 166, 167, 168] (by decide +kernel) (by decide +kernel)
set_option maxRecDepth 20000 in
theorem gX6_hint_Jx4a65c_get_915e3 : GoodIn wsX6_hint (wsV RX6 122 RJx4a65c yJx4a65c_get_915e3 wsJx4a65c_get_915e3) := goodIn_app (goodIn_of _ (by decide +kernel)) ggX6_hint_Jx4a65c_get_915e3
theorem dX6_hint_0 : decode cX6_hint 0 = .ok (.aload_n 0, 1) := by decide +kernel
theorem dX6_hint_1 : decode cX6_hint 1 = .ok (.iload_n 1, 1) := by decide +kernel
theorem dX6_hint_2 : decode cX6_hint 2 = .ok (.invokevirtual 129, 3) := by decide +kernel
theorem dX6_hint_5 : decode cX6_hint 5 = .ok (.astore_n 3, 1) := by decide +kernel
theorem dX6_hint_6 : decode cX6_hint 6 = .ok (.iload_n 2, 1) := by decide +kernel
theorem dX6_hint_7 : decode cX6_hint 7 = .ok (.invokestatic 101, 3) := by decide +kernel
theorem dX6_hint_10 : decode cX6_hint 10 = .ok (.aload_n 0, 1) := by decide +kernel
theorem dX6_hint_11 : decode cX6_hint 11 = .ok (.iload_n 2, 1) := by decide +kernel
theorem dX6_hint_12 : decode cX6_hint 12 = .ok (.invokevirtual 272, 3) := by decide +kernel
theorem dX6_hint_15 : decode cX6_hint 15 = .ok (.aload_n 0, 1) := by decide +kernel
theorem dX6_hint_16 : decode cX6_hint 16 = .ok (.invokevirtual 275, 3) := by decide +kernel
theorem dX6_hint_19 : decode cX6_hint 19 = .ok (.iconst 1, 1) := by decide +kernel
theorem dX6_hint_20 : decode cX6_hint 20 = .ok (.aload_n 3, 1) := by decide +kernel
theorem dX6_hint_21 : decode cX6_hint 21 = .ok (.getfield 290, 3) := by decide +kernel
theorem dX6_hint_24 : decode cX6_hint 24 = .ok (.ishl, 1) := by decide +kernel
theorem dX6_hint_25 : decode cX6_hint 25 = .ok (.iconst (-1), 1) := by decide +kernel
theorem dX6_hint_26 : decode cX6_hint 26 = .ok (.ixor, 1) := by decide +kernel
theorem dX6_hint_27 : decode cX6_hint 27 = .ok (.iand, 1) := by decide +kernel
theorem dX6_hint_28 : decode cX6_hint 28 = .ok (.istore 4, 2) := by decide +kernel
theorem dX6_hint_30 : decode cX6_hint 30 = .ok (.aload_n 0, 1) := by decide +kernel
theorem dX6_hint_31 : decode cX6_hint 31 = .ok (.iload 4, 2) := by decide +kernel
theorem dX6_hint_33 : decode cX6_hint 33 = .ok (.iconst (-1), 1) := by decide +kernel
theorem dX6_hint_34 : decode cX6_hint 34 = .ok (.invokevirtual 278, 3) := by decide +kernel
theorem dX6_hint_37 : decode cX6_hint 37 = .ok (.istore 5, 2) := by decide +kernel
theorem dX6_hint_39 : decode cX6_hint 39 = .ok (.iconst (-1), 1) := by decide +kernel
theorem dX6_hint_40 : decode cX6_hint 40 = .ok (.istore 6, 2) := by decide +kernel
theorem dX6_hint_42 : decode cX6_hint 42 = .ok (.sipush 10000, 3) := by decide +kernel
theorem dX6_hint_45 : decode cX6_hint 45 = .ok (.istore 7, 2) := by decide +kernel
theorem dX6_hint_47 : decode cX6_hint 47 = .ok (.iconst (-1), 1) := by decide +kernel
theorem dX6_hint_48 : decode cX6_hint 48 = .ok (.istore 8, 2) := by decide +kernel
theorem dX6_hint_50 : decode cX6_hint 50 = .ok (.iconst 0, 1) := by decide +kernel
theorem dX6_hint_51 : decode cX6_hint 51 = .ok (.istore 9, 2) := by decide +kernel
theorem dX6_hint_53 : decode cX6_hint 53 = .ok (.iconst 0, 1) := by decide +kernel
theorem dX6_hint_54 : decode cX6_hint 54 = .ok (.istore 10, 2) := by decide +kernel
theorem dX6_hint_56 : decode cX6_hint 56 = .ok (.iload 10, 2) := by decide +kernel
theorem dX6_hint_58 : decode cX6_hint 58 = .ok (.aload_n 0, 1) := by decide +kernel
theorem dX6_hint_59 : decode cX6_hint 59 = .ok (.getfield 12, 3) := by decide +kernel
theorem dX6_hint_62 : decode cX6_hint 62 = .ok (.invokevirtual 47, 3) := by decide +kernel
theorem dX6_hint_65 : decode cX6_hint 65 = .ok (.if_icmp .ge 101, 3) := by decide +kernel
theorem dX6_hint_68 : decode cX6_hint 68 = .ok (.aload_n 0, 1) := by decide +kernel
theorem dX6_hint_69 : decode cX6_hint 69 = .ok (.getfield 12, 3) := by decide +kernel
theorem dX6_hint_72 : decode cX6_hint 72 = .ok (.iload 10, 2) := by decide +kernel
theorem dX6_hint_74 : decode cX6_hint 74 = .ok (.invokevirtual 122, 3) := by decide +kernel
theorem dX6_hint_77 : decode cX6_hint 77 = .ok (.checkcast 56, 3) := by decide +kernel
theorem dX6_hint_80 : decode cX6_hint 80 = .ok (.astore 11, 2) := by decide +kernel
theorem dX6_hint_82 : decode cX6_hint 82 = .ok (.aload 11, 2) := by decide +kernel
theorem dX6_hint_84 : decode cX6_hint 84 = .ok (.getfield 337, 3) := by decide +kernel
theorem dX6_hint_87 : decode cX6_hint 87 = .ok (.ifCond .eq 73, 3) := by decide +kernel
theorem dX6_hint_90 : decode cX6_hint 90 = .ok (.aload 11, 2) := by decide +kernel
theorem dX6_hint_92 : decode cX6_hint 92 = .ok (.getfield 88, 3) := by decide +kernel
theorem dX6_hint_95 : decode cX6_hint 95 = .ok (.aload_n 3, 1) := by decide +kernel
theorem dX6_hint_96 : decode cX6_hint 96 = .ok (.getfield 158, 3) := by decide +kernel
theorem dX6_hint_99 : decode cX6_hint 99 = .ok (.if_icmp .le 6, 3) := by decide +kernel
theorem dX6_hint_102 : decode cX6_hint 102 = .ok (.goto 58, 3) := by decide +kernel
theorem dX6_hint_105 : decode cX6_hint 105 = .ok (.aload 11, 2) := by decide +kernel
theorem dX6_hint_107 : decode cX6_hint 107 = .ok (.getfield 88, 3) := by decide +kernel
theorem dX6_hint_110 : decode cX6_hint 110 = .ok (.iload 9, 2) := by decide +kernel
theorem dX6_hint_112 : decode cX6_hint 112 = .ok (.if_icmp .le 14, 3) := by decide +kernel
theorem dX6_hint_115 : decode cX6_hint 115 = .ok (.iload 10, 2) := by decide +kernel
theorem dX6_hint_117 : decode cX6_hint 117 = .ok (.istore 8, 2) := by decide +kernel
theorem dX6_hint_119 : decode cX6_hint 119 = .ok (.aload 11, 2) := by decide +kernel
theorem dX6_hint_121 : decode cX6_hint 121 = .ok (.getfield 88, 3) := by decide +kernel
theorem dX6_hint_124 : decode cX6_hint 124 = .ok (.istore 9, 2) := by decide +kernel
theorem dX6_hint_126 : decode cX6_hint 126 = .ok (.aload 11, 2) := by decide +kernel
theorem dX6_hint_128 : decode cX6_hint 128 = .ok (.getfield 88, 3) := by decide +kernel
theorem dX6_hint_131 : decode cX6_hint 131 = .ok (.iload 7, 2) := by decide +kernel
theorem dX6_hint_133 : decode cX6_hint 133 = .ok (.if_icmp .ge 27, 3) := by decide +kernel
theorem dX6_hint_136 : decode cX6_hint 136 = .ok (.aload_n 0, 1) := by decide +kernel
theorem dX6_hint_137 : decode cX6_hint 137 = .ok (.iload 4, 2) := by decide +kernel
theorem dX6_hint_139 : decode cX6_hint 139 = .ok (.iload 10, 2) := by decide +kernel
theorem dX6_hint_141 : decode cX6_hint 141 = .ok (.invokevirtual 278, 3) := by decide +kernel
theorem dX6_hint_144 : decode cX6_hint 144 = .ok (.iload 5, 2) := by decide +kernel
theorem dX6_hint_146 : decode cX6_hint 146 = .ok (.if_icmp .ne 14, 3) := by decide +kernel
theorem dX6_hint_149 : decode cX6_hint 149 = .ok (.iload 10, 2) := by decide +kernel
theorem dX6_hint_151 : decode cX6_hint 151 = .ok (.istore 6, 2) := by decide +kernel
theorem dX6_hint_153 : decode cX6_hint 153 = .ok (.aload 11, 2) := by decide +kernel
theorem dX6_hint_155 : decode cX6_hint 155 = .ok (.getfield 88, 3) := by decide +kernel
theorem dX6_hint_158 : decode cX6_hint 158 = .ok (.istore 7, 2) := by decide +kernel
theorem dX6_hint_160 : decode cX6_hint 160 = .ok (.iinc 10 1, 3) := by decide +kernel
theorem dX6_hint_163 : decode cX6_hint 163 = .ok (.goto (-107), 3) := by decide +kernel
theorem dX6_hint_166 : decode cX6_hint 166 = .ok (.iload 6, 2) := by decide +kernel
theorem dX6_hint_168 : decode cX6_hint 168 = .ok (.iconst (-1), 1) := by decide +kernel
theorem dX6_hint_169 : decode cX6_hint 169 = .ok (.if_icmp .ne 8, 3) := by decide +kernel
theorem dX6_hint_172 : decode cX6_hint 172 = .ok (.iload 8, 2) := by decide +kernel
theorem dX6_hint_174 : decode cX6_hint 174 = .ok (.goto 5, 3) := by decide +kernel
theorem dX6_hint_177 : decode cX6_hint 177 = .ok (.iload 6, 2) := by decide +kernel
theorem dX6_hint_179 : decode cX6_hint 179 = .ok (.ireturn, 1) := by decide +kernel
set_option maxRecDepth 20000 in
theorem ggX6_isSound_X6_noneTooManyIfAllJoined : GoodIn wsX6_isSound wsX6_noneTooManyIfAllJoined := goodIn_r _ [7, 8, 9, 10, 11, 12, 13, 14, 15, 16, 17, 18, 19, 20, 21, 22, 23, 24, 25, 26, 27, 28, 29, 30, 31, 32, 33, 34, 35, 36, 37, 6, 38, 39, 40, 41, 42, 43, 44, 45, 46, 124, 125, 126, 127, 128, 129, 130, 131, 132, 133, 134, 135, 136, 137, 138, 139, 140, 141, 142, 143, 144, 145, 146, 147, 148, 149, 150, 151, 152, 153, 154, 155, 156, 157, 158, 159] (by decide +kernel) (by decide +kernel)
set_option maxRecDepth 20000 in
theorem gX6_isSound_X6_noneTooManyIfAllJoined : GoodIn wsX6_isSound (wsV RX6 340 RX6 yX6_noneTooManyIfAllJoined wsX6_noneTooManyIfAllJoined) := goodIn_app (goodIn_of _ (by decide +kernel)) ggX6_isSound_X6_noneTooManyIfAllJoined
set_option maxRecDepth 20000 in
theorem ggX6_isSound_X6_paidForKept : GoodIn wsX6_isSound wsX6_paidForKept := goodIn_r _ [50, 51, 52, 12, 13, 14, 15, 16, 17, 18, 19, 20, 21, 22, 23, 24, 25, 26, 27, 28, 29, 30, 31, 32, 33, 34, 53, 54, 55, 6, 56, 39, 40, 57, 58, 59, 60, 61, 62, 63, 64, 65, 124, 125, 126, 127, 128, 129, 130, 131, 132, 140, 141, 142, 143, 144, 145, 146, 147, 148, 149, 150, 151, 152, 153, 154, 155, 156, 157, 158, 159] (by decide +kernel) (by decide +kernel)
set_option maxRecDepth 20000 in
theorem gX6_isSound_X6_paidForKept : GoodIn wsX6_isSound (wsV RX6 343 RX6 yX6_paidForKept wsX6_paidForKept) := goodIn_app (goodIn_of _ (by decide +kernel)) ggX6_isSound_X6_paidForKept
set_option maxRecDepth 20000 in
theorem ggX6_isSound_X6_pledgedNow : GoodIn wsX6_isSound wsX6_pledgedNow := goodIn_r _ [69, 9, 10, 12, 13, 14, 15, 16, 17, 18, 19, 20, 21, 22, 23, 24, 25, 26, 27, 28, 29, 30, 31, 32, 33, 34, 70, 71, 72, 73, 74, 75, 76, 77, 78, 79, 124, 125, 126, 127, 128, 129, 130, 131, 132, 140, 141, 142, 133, 134, 135, 136, 137, 138, 139, 160, 161] (by decide +kernel) (by decide +kernel)
set_option maxRecDepth 20000 in
theorem gX6_isSound_X6_pledgedNow : GoodIn wsX6_isSound (wsV RX6 346 RX6 yX6_pledgedNow wsX6_pledgedNow) := goodIn_app (goodIn_of _ (by decide +kernel)) ggX6_isSound_X6_pledgedNow
set_option maxRecDepth 20000 in
theorem ggX6_isSound_X6_noPurseBelowZero : GoodIn wsX6_isSound wsX6_noPurseBelowZero := goodIn_r _ [83, 51, 52, 84, 12, 13, 14, 15, 16, 17, 18, 19, 20, 21, 22, 23, 24, 25, 26, 27, 28, 29, 30, 31, 32, 33, 34, 124, 125, 126, 127, 128, 129, 130, 131, 132, 162, 163, 140, 141, 142] (by decide +kernel) (by decide +kernel)
set_option maxRecDepth 20000 in
theorem gX6_isSound_X6_noPurseBelowZero : GoodIn wsX6_isSound (wsV RX6 349 RX6 yX6_noPurseBelowZero wsX6_noPurseBelowZero) := goodIn_app (goodIn_of _ (by decide +kernel)) ggX6_isSound_X6_noPurseBelowZero
set_option maxRecDepth 20000 in
theorem ggX6_isSound_X6_noOrderedLacks : GoodIn wsX6_isSound wsX6_noOrderedLacks := goodIn_r _ [88, 9, 10, 12, 13, 14, 15, 16, 17, 18, 19, 20, 21, 22, 23, 24, 25, 26, 27, 28, 29, 30, 31, 32, 33, 34, 89, 90, 91, 73, 92, 93, 94, 95, 96, 97, 98, 99, 100, 101, 102, 103, 71, 72, 74, 75, 76, 77, 78, 79, 104, 124, 125, 126, 127, 128, 129, 130, 131, 132, 140, 141, 142, 133, 134, 135, 136, 137, 138, 139, 160, 161] (by decide +kernel) (by decide +kernel)
set_option maxRecDepth 20000 in
theorem gX6_isSound_X6_noOrderedLacks : GoodIn wsX6_isSound (wsV RX6 352 RX6 yX6_noOrderedLacks wsX6_noOrderedLacks) := goodIn_app (goodIn_of _ (by decide +kernel)) ggX6_isSound_X6_noOrderedLacks
set_option maxRecDepth 20000 in
theorem ggX6_isSound_X6_joinedTillsSeeAlike : GoodIn wsX6_isSound wsX6_joinedTillsSeeAlike := goodIn_r _ [108, 109, 110, 111, 6, 112, 8, 113, 114, 115, 116, 39, 40, 12, 13, 14, 15, 16, 17, 18, 19, 20, 21, 22, 23, 24, 25, 26, 27, 28, 29, 30, 31, 32, 33, 34, 60, 61, 62, 63, 64, 65, 117, 118, 119, 120, 121, 122, 123, 44, 45, 46, 124, 125, 126, 127, 128, 129, 130, 131, 132, 140, 141, 142, 143, 144, 145, 146, 147, 148, 149, 150, 151, 152, 153, 154, 155, 156, 157, 158, 159] (by decide +kernel) (by decide +kernel)
set_option maxRecDepth 20000 in
theorem gX6_isSound_X6_joinedTillsSeeAlike : GoodIn wsX6_isSound (wsV RX6 355 RX6 yX6_joinedTillsSeeAlike wsX6_joinedTillsSeeAlike) := goodIn_app (goodIn_of _ (by decide +kernel)) ggX6_isSound_X6_joinedTillsSeeAlike
theorem dX6_isSound_0 : decode cX6_isSound 0 = .ok (.aload_n 0, 1) := by decide +kernel
theorem dX6_isSound_1 : decode cX6_isSound 1 = .ok (.invokevirtual 340, 3) := by decide +kernel
theorem dX6_isSound_4 : decode cX6_isSound 4 = .ok (.ifCond .eq 49, 3) := by decide +kernel
theorem dX6_isSound_7 : decode cX6_isSound 7 = .ok (.aload_n 0, 1) := by decide +kernel
theorem dX6_isSound_8 : decode cX6_isSound 8 = .ok (.getfield 303, 3) := by decide +kernel
theorem dX6_isSound_11 : decode cX6_isSound 11 = .ok (.aload_n 0, 1) := by decide +kernel
theorem dX6_isSound_12 : decode cX6_isSound 12 = .ok (.invokevirtual 343, 3) := by decide +kernel
theorem dX6_isSound_15 : decode cX6_isSound 15 = .ok (.aload_n 0, 1) := by decide +kernel
theorem dX6_isSound_16 : decode cX6_isSound 16 = .ok (.invokevirtual 346, 3) := by decide +kernel
theorem dX6_isSound_19 : decode cX6_isSound 19 = .ok (.iadd, 1) := by decide +kernel
theorem dX6_isSound_20 : decode cX6_isSound 20 = .ok (.aload_n 0, 1) := by decide +kernel
theorem dX6_isSound_21 : decode cX6_isSound 21 = .ok (.getfield 306, 3) := by decide +kernel
theorem dX6_isSound_24 : decode cX6_isSound 24 = .ok (.iadd, 1) := by decide +kernel
theorem dX6_isSound_25 : decode cX6_isSound 25 = .ok (.if_icmp .ne 28, 3) := by decide +kernel
theorem dX6_isSound_28 : decode cX6_isSound 28 = .ok (.aload_n 0, 1) := by decide +kernel
theorem dX6_isSound_29 : decode cX6_isSound 29 = .ok (.invokevirtual 349, 3) := by decide +kernel
theorem dX6_isSound_32 : decode cX6_isSound 32 = .ok (.ifCond .eq 21, 3) := by decide +kernel
theorem dX6_isSound_35 : decode cX6_isSound 35 = .ok (.aload_n 0, 1) := by decide +kernel
theorem dX6_isSound_36 : decode cX6_isSound 36 = .ok (.invokevirtual 352, 3) := by decide +kernel
theorem dX6_isSound_39 : decode cX6_isSound 39 = .ok (.ifCond .eq 14, 3) := by decide +kernel
theorem dX6_isSound_42 : decode cX6_isSound 42 = .ok (.aload_n 0, 1) := by decide +kernel
theorem dX6_isSound_43 : decode cX6_isSound 43 = .ok (.invokevirtual 355, 3) := by decide +kernel
theorem dX6_isSound_46 : decode cX6_isSound 46 = .ok (.ifCond .eq 7, 3) := by decide +kernel
theorem dX6_isSound_49 : decode cX6_isSound 49 = .ok (.iconst 1, 1) := by decide +kernel
theorem dX6_isSound_50 : decode cX6_isSound 50 = .ok (.goto 4, 3) := by decide +kernel
theorem dX6_isSound_53 : decode cX6_isSound 53 = .ok (.iconst 0, 1) := by decide +kernel
theorem dX6_isSound_54 : decode cX6_isSound 54 = .ok (.ireturn, 1) := by decide +kernel
set_option maxRecDepth 20000 in
theorem ggX6_digest_X6_shop : GoodIn wsX6_digest wsX6_shop := goodIn_ca (goodIn_r _ [10, 11, 12, 13, 3, 4, 5, 14, 15, 16, 17, 18, 19, 20, 21, 22, 23, 24, 25, 26, 9, 27, 28, 29, 30, 31, 32, 33, 34, 35, 36, 37, 38, 39, 40, 41, 42, 43, 44, 45, 46, 47, 48, 49, 50, 51, 52, 53, 54, 55, 56, 57, 58, 59, 60, 61, 62, 63, 64, 65, 66, 299, 300, 301, 302, 303, 304, 305, 306, 307, 308, 309, 310, 311, 312, 313, 314, 315, 316, 317, 318, 319, 320, 321, 322, 323, 324, 325, 326, 327, 328, 329, 330, 331, 332, 333, 334] (by decide +kernel) (by decide +kernel)) (goodIn_sub (fun _ h => List.mem_cons_of_mem _ (List.mem_append_left _ (List.mem_append_right _ h))) (by decide +kernel))
set_option maxRecDepth 20000 in
theorem gX6_digest_X6_shop : GoodIn wsX6_digest (wsV RX6 362 RX6 yX6_shop wsX6_shop) := goodIn_app (goodIn_of _ (by decide +kernel)) ggX6_digest_X6_shop
set_option maxRecDepth 20000 in
theorem ggX6_digest_Jx4a65c_size_8abf5 : GoodIn wsX6_digest wsJx4a65c_size_8abf5 := goodIn_r _ [22, 23, 308, 309, 310] (by decide +kernel) (by decide +kernel)
set_option maxRecDepth 20000 in
theorem gX6_digest_Jx4a65c_size_8abf5 : GoodIn wsX6_digest (wsV RX6 47 RJx4a65c yJx4a65c_size_8abf5 wsJx4a65c_size_8abf5) := goodIn_app (goodIn_of _ (by decide +kernel)) ggX6_digest_Jx4a65c_size_8abf5
set_option maxRecDepth 20000 in
theorem ggX6_digest_X6_ofWish : GoodIn wsX6_digest wsX6_ofWish := goodIn_ca (goodIn_ca (goodIn_r _ [70, 11, 12, 71, 72, 73, 74, 75, 76, 77, 9, 78, 79, 80, 3, 81, 18, 19, 20, 21, 22, 23, 30, 31, 32, 33, 34, 35, 36, 37, 38, 39, 40, 41, 42, 43, 44, 45, 46, 47, 48, 49, 82, 83, 84, 85, 5, 28, 29, 86, 87, 88, 89, 90, 91, 92, 93, 94, 95, 96, 97, 98, 99, 100, 101, 102, 103, 104, 105, 106, 107, 108, 109, 110, 111, 112, 113, 328, 329, 330, 331, 332, 333, 334, 299, 300, 301, 302, 303, 304, 305, 306, 307, 308, 309, 310, 311, 312, 313, 314, 315, 316, 317, 318, 319, 320, 321, 322, 323, 324, 325, 326, 327, 335, 336] (by decide +kernel) (by decide +kernel)) (goodIn_sub (fun _ h => List.mem_cons_of_mem _ (List.mem_append_left _ (List.mem_append_right _ h))) (by decide +kernel))) (goodIn_sub (fun _ h => List.mem_cons_of_mem _ (List.mem_append_right _ h)) (by decide +kernel))
set_option maxRecDepth 20000 in
theorem gX6_digest_X6_ofWish : GoodIn wsX6_digest (wsV RX6 365 RX6 yX6_ofWish wsX6_ofWish) := goodIn_app (goodIn_of _ (by decide +kernel)) ggX6_digest_X6_ofWish
set_option maxRecDepth 20000 in
theorem ggX6_digest_X6_ofGuest : GoodIn wsX6_digest wsX6_ofGuest := goodIn_ca (goodIn_ca (goodIn_r _ [117, 11, 12, 118, 119, 120, 121, 9, 122, 79, 80, 4, 123, 18, 19, 20, 21, 22, 23, 30, 31, 32, 33, 34, 35, 36, 37, 38, 39, 40, 41, 42, 43, 44, 45, 46, 124, 125, 126, 127, 5, 28, 29, 128, 129, 47, 48, 49, 130, 131, 132, 133, 134, 135, 136, 137, 138, 139, 140, 141, 142, 143, 144, 3, 81, 145, 146, 147, 91, 148, 93, 94, 149, 95, 96, 97, 150, 151, 152, 153, 16, 54, 154, 155, 13, 55, 56, 57, 58, 59, 60, 61, 62, 63, 64, 65, 66, 337, 338, 299, 300, 301, 302, 303, 304, 305, 306, 307, 308, 309, 310, 311, 312, 313, 314, 315, 316, 317, 318, 319, 320, 321, 322, 323, 324, 325, 326, 327, 328, 329, 330, 331, 332, 333, 334, 335, 336] (by decide +kernel) (by decide +kernel)) (goodIn_sub (fun _ h => List.mem_cons_of_mem _ (List.mem_append_left _ (List.mem_append_right _ h))) (by decide +kernel))) (goodIn_sub (fun _ h => List.mem_cons_of_mem _ (List.mem_append_right _ h)) (by decide +kernel))
set_option maxRecDepth 20000 in
theorem gX6_digest_X6_ofGuest : GoodIn wsX6_digest (wsV RX6 368 RX6 yX6_ofGuest wsX6_ofGuest) := goodIn_app (goodIn_of _ (by decide +kernel)) ggX6_digest_X6_ofGuest
set_option maxRecDepth 20000 in
theorem ggX6_digest_X6_digestTill : GoodIn wsX6_digest wsX6_digestTill := goodIn_ca (goodIn_ca (goodIn_r _ [159, 2, 3, 4, 160, 161, 162, 9, 163, 11, 12, 164, 165, 166, 79, 80, 167, 168, 169, 170, 171, 47, 48, 49, 172, 173, 174, 175, 5, 28, 176, 177, 18, 19, 20, 21, 22, 23, 30, 31, 32, 33, 34, 35, 36, 37, 38, 39, 40, 41, 42, 43, 44, 45, 46, 135, 136, 137, 138, 139, 140, 178, 179, 180, 181, 16, 54, 13, 55, 56, 57, 58, 59, 60, 61, 62, 63, 64, 65, 66, 182, 183, 184, 185, 186, 187, 188, 189, 190, 191, 192, 193, 194, 195, 196, 197, 198, 199, 81, 200, 201, 202, 203, 204, 73, 74, 71, 205, 206, 105, 106, 107, 207, 208, 209, 210, 86, 87, 211, 212, 213, 214, 123, 124, 125, 126, 127, 29, 128, 129, 141, 142, 143, 144, 145, 146, 147, 91, 148, 93, 94, 149, 95, 96, 97, 215, 216, 217, 218, 118, 219, 220, 221, 222, 223, 224, 225, 226, 227, 228, 229, 230, 231, 232, 233, 234, 235, 236, 72, 237, 238, 239, 240, 241, 242, 243, 244, 75, 76, 77, 78, 245, 246, 247, 248, 249, 119, 120, 121, 122, 250, 251, 252, 253, 254, 255, 256, 257, 258, 259, 260, 261, 262, 263, 299, 300, 301, 302, 303, 304, 305, 306, 307, 311, 312, 313, 314, 315, 316, 317, 318, 319, 320, 321, 322, 323, 324, 325, 326, 327, 308, 309, 310, 328, 329, 330, 331, 332, 333, 334, 335, 336, 337, 338] (by decide +kernel) (by decide +kernel)) (goodIn_sub (fun _ h => List.mem_cons_of_mem _ (List.mem_append_left _ (List.mem_append_right _ h))) (by decide +kernel))) (goodIn_sub (fun _ h => List.mem_cons_of_mem _ (List.mem_append_right _ h)) (by decide +kernel))
set_option maxRecDepth 20000 in
theorem gX6_digest_X6_digestTill : GoodIn wsX6_digest (wsV RX6 371 RX6 yX6_digestTill wsX6_digestTill) := goodIn_app (goodIn_of _ (by decide +kernel)) ggX6_digest_X6_digestTill
set_option maxRecDepth 20000 in
theorem ggX6_digest_X6_ofGift : GoodIn wsX6_digest wsX6_ofGift := goodIn_ca (goodIn_ca (goodIn_r _ [267, 79, 80, 11, 12, 5, 28, 86, 87, 268, 128, 129, 249, 176, 177, 269, 270, 134, 29, 18, 19, 20, 21, 22, 23, 30, 31, 32, 33, 34, 35, 36, 37, 38, 39, 40, 41, 42, 43, 44, 45, 46, 299, 300, 301, 302, 303, 304, 305, 306, 307, 311, 312, 313, 314, 315, 316, 317, 318, 319, 320, 321, 322, 323, 324, 325, 326, 327, 328, 329, 330, 331, 332, 333, 334, 337, 338, 308, 309, 310] (by decide +kernel) (by decide +kernel)) (goodIn_sub (fun _ h => List.mem_cons_of_mem _ (List.mem_append_right _ h)) (by decide +kernel))) (goodIn_sub (fun _ h => List.mem_cons_of_mem _ (List.mem_append_left _ (List.mem_append_right _ h))) (by decide +kernel))
set_option maxRecDepth 20000 in
theorem gX6_digest_X6_ofGift : GoodIn wsX6_digest (wsV RX6 375 RX6 yX6_ofGift wsX6_ofGift) := goodIn_app (goodIn_of _ (by decide +kernel)) ggX6_digest_X6_ofGift
set_option maxRecDepth 20000 in
theorem ggX6_digest_X6_isSound : GoodIn wsX6_digest wsX6_isSound := goodIn_r _ [274, 14, 15, 275, 276, 277, 9, 278, 171, 3, 81, 71, 18, 19, 20, 21, 22, 23, 30, 31, 32, 33, 34, 35, 36, 37, 38, 39, 40, 41, 42, 43, 44, 45, 46, 82, 83, 84, 85, 5, 28, 29, 86, 87, 47, 48, 49, 279, 280, 281, 282, 4, 123, 130, 131, 132, 133, 128, 129, 134, 135, 136, 137, 138, 139, 140, 283, 284, 285, 286, 88, 89, 90, 91, 92, 93, 94, 95, 96, 97, 287, 288, 289, 290, 118, 291, 292, 293, 294, 109, 110, 111, 112, 102, 113, 99, 100, 101, 103, 104, 105, 106, 107, 108, 98, 295, 296, 297, 298, 167, 168, 169, 170, 189, 190, 191, 192, 193, 194, 195, 185, 186, 187, 188, 299, 300, 301, 302, 303, 304, 305, 306, 307, 328, 329, 330, 331, 332, 333, 334, 308, 309, 310, 311, 312, 313, 314, 315, 316, 317, 318, 319, 320, 321, 322, 323, 324, 325, 326, 327, 335, 336, 337, 338] (by decide +kernel) (by decide +kernel)
set_option maxRecDepth 20000 in
theorem gX6_digest_X6_isSound : GoodIn wsX6_digest (wsV RX6 378 RX6 yX6_isSound wsX6_isSound) := goodIn_app (goodIn_of _ (by decide +kernel)) ggX6_digest_X6_isSound
set_option maxRecDepth 20000 in
theorem ggX6_digest_X6_oneIf : GoodIn wsX6_digest wsX6_oneIf := goodIn_r _ [49] (by decide +kernel) (by decide +kernel)
set_option maxRecDepth 20000 in
theorem gX6_digest_X6_oneIf : GoodIn wsX6_digest (va_wsS RX6 235 yX6_oneIf wsX6_oneIf) := goodIn_app (goodIn_of _ (by decide +kernel)) ggX6_digest_X6_oneIf
theorem dX6_digest_0 : decode cX6_digest 0 = .ok (.ldc2_w 358, 3) := by decide +kernel
theorem dX6_digest_3 : decode cX6_digest 3 = .ok (.lstore_n 1, 1) := by decide +kernel
theorem dX6_digest_4 : decode cX6_digest 4 = .ok (.iconst 0, 1) := by decide +kernel
theorem dX6_digest_5 : decode cX6_digest 5 = .ok (.istore_n 3, 1) := by decide +kernel
theorem dX6_digest_6 : decode cX6_digest 6 = .ok (.iload_n 3, 1) := by decide +kernel
theorem dX6_digest_7 : decode cX6_digest 7 = .ok (.bipush 12, 2) := by decide +kernel
theorem dX6_digest_9 : decode cX6_digest 9 = .ok (.if_icmp .ge 22, 3) := by decide +kernel
theorem dX6_digest_12 : decode cX6_digest 12 = .ok (.lload_n 1, 1) := by decide +kernel
theorem dX6_digest_13 : decode cX6_digest 13 = .ok (.ldc2_w 360, 3) := by decide +kernel
theorem dX6_digest_16 : decode cX6_digest 16 = .ok (.lmul, 1) := by decide +kernel
theorem dX6_digest_17 : decode cX6_digest 17 = .ok (.aload_n 0, 1) := by decide +kernel
theorem dX6_digest_18 : decode cX6_digest 18 = .ok (.iload_n 3, 1) := by decide +kernel
theorem dX6_digest_19 : decode cX6_digest 19 = .ok (.invokevirtual 362, 3) := by decide +kernel
theorem dX6_digest_22 : decode cX6_digest 22 = .ok (.i2l, 1) := by decide +kernel
theorem dX6_digest_23 : decode cX6_digest 23 = .ok (.ladd, 1) := by decide +kernel
theorem dX6_digest_24 : decode cX6_digest 24 = .ok (.lstore_n 1, 1) := by decide +kernel
theorem dX6_digest_25 : decode cX6_digest 25 = .ok (.iinc 3 1, 3) := by decide +kernel
theorem dX6_digest_28 : decode cX6_digest 28 = .ok (.goto (-22), 3) := by decide +kernel
theorem dX6_digest_31 : decode cX6_digest 31 = .ok (.iconst 0, 1) := by decide +kernel
theorem dX6_digest_32 : decode cX6_digest 32 = .ok (.istore_n 3, 1) := by decide +kernel
theorem dX6_digest_33 : decode cX6_digest 33 = .ok (.iload_n 3, 1) := by decide +kernel
theorem dX6_digest_34 : decode cX6_digest 34 = .ok (.aload_n 0, 1) := by decide +kernel
theorem dX6_digest_35 : decode cX6_digest 35 = .ok (.getfield 12, 3) := by decide +kernel
theorem dX6_digest_38 : decode cX6_digest 38 = .ok (.invokevirtual 47, 3) := by decide +kernel
theorem dX6_digest_41 : decode cX6_digest 41 = .ok (.if_icmp .ge 40, 3) := by decide +kernel
theorem dX6_digest_44 : decode cX6_digest 44 = .ok (.iconst 0, 1) := by decide +kernel
theorem dX6_digest_45 : decode cX6_digest 45 = .ok (.istore 4, 2) := by decide +kernel
theorem dX6_digest_47 : decode cX6_digest 47 = .ok (.iload 4, 2) := by decide +kernel
theorem dX6_digest_49 : decode cX6_digest 49 = .ok (.bipush 9, 2) := by decide +kernel
theorem dX6_digest_51 : decode cX6_digest 51 = .ok (.if_icmp .ge 24, 3) := by decide +kernel
theorem dX6_digest_54 : decode cX6_digest 54 = .ok (.lload_n 1, 1) := by decide +kernel
theorem dX6_digest_55 : decode cX6_digest 55 = .ok (.ldc2_w 360, 3) := by decide +kernel
theorem dX6_digest_58 : decode cX6_digest 58 = .ok (.lmul, 1) := by decide +kernel
theorem dX6_digest_59 : decode cX6_digest 59 = .ok (.aload_n 0, 1) := by decide +kernel
theorem dX6_digest_60 : decode cX6_digest 60 = .ok (.iload_n 3, 1) := by decide +kernel
theorem dX6_digest_61 : decode cX6_digest 61 = .ok (.iload 4, 2) := by decide +kernel
theorem dX6_digest_63 : decode cX6_digest 63 = .ok (.invokevirtual 365, 3) := by decide +kernel
theorem dX6_digest_66 : decode cX6_digest 66 = .ok (.i2l, 1) := by decide +kernel
theorem dX6_digest_67 : decode cX6_digest 67 = .ok (.ladd, 1) := by decide +kernel
theorem dX6_digest_68 : decode cX6_digest 68 = .ok (.lstore_n 1, 1) := by decide +kernel
theorem dX6_digest_69 : decode cX6_digest 69 = .ok (.iinc 4 1, 3) := by decide +kernel
theorem dX6_digest_72 : decode cX6_digest 72 = .ok (.goto (-25), 3) := by decide +kernel
theorem dX6_digest_75 : decode cX6_digest 75 = .ok (.iinc 3 1, 3) := by decide +kernel
theorem dX6_digest_78 : decode cX6_digest 78 = .ok (.goto (-45), 3) := by decide +kernel
theorem dX6_digest_81 : decode cX6_digest 81 = .ok (.iconst 0, 1) := by decide +kernel
theorem dX6_digest_82 : decode cX6_digest 82 = .ok (.istore_n 3, 1) := by decide +kernel
theorem dX6_digest_83 : decode cX6_digest 83 = .ok (.iload_n 3, 1) := by decide +kernel
theorem dX6_digest_84 : decode cX6_digest 84 = .ok (.aload_n 0, 1) := by decide +kernel
theorem dX6_digest_85 : decode cX6_digest 85 = .ok (.getfield 16, 3) := by decide +kernel
theorem dX6_digest_88 : decode cX6_digest 88 = .ok (.invokevirtual 47, 3) := by decide +kernel
theorem dX6_digest_91 : decode cX6_digest 91 = .ok (.if_icmp .ge 40, 3) := by decide +kernel
theorem dX6_digest_94 : decode cX6_digest 94 = .ok (.iconst 0, 1) := by decide +kernel
theorem dX6_digest_95 : decode cX6_digest 95 = .ok (.istore 4, 2) := by decide +kernel
theorem dX6_digest_97 : decode cX6_digest 97 = .ok (.iload 4, 2) := by decide +kernel
theorem dX6_digest_99 : decode cX6_digest 99 = .ok (.bipush 6, 2) := by decide +kernel
theorem dX6_digest_101 : decode cX6_digest 101 = .ok (.if_icmp .ge 24, 3) := by decide +kernel
theorem dX6_digest_104 : decode cX6_digest 104 = .ok (.lload_n 1, 1) := by decide +kernel
theorem dX6_digest_105 : decode cX6_digest 105 = .ok (.ldc2_w 360, 3) := by decide +kernel
theorem dX6_digest_108 : decode cX6_digest 108 = .ok (.lmul, 1) := by decide +kernel
theorem dX6_digest_109 : decode cX6_digest 109 = .ok (.aload_n 0, 1) := by decide +kernel
theorem dX6_digest_110 : decode cX6_digest 110 = .ok (.iload_n 3, 1) := by decide +kernel
theorem dX6_digest_111 : decode cX6_digest 111 = .ok (.iload 4, 2) := by decide +kernel
theorem dX6_digest_113 : decode cX6_digest 113 = .ok (.invokevirtual 368, 3) := by decide +kernel
theorem dX6_digest_116 : decode cX6_digest 116 = .ok (.i2l, 1) := by decide +kernel
theorem dX6_digest_117 : decode cX6_digest 117 = .ok (.ladd, 1) := by decide +kernel
theorem dX6_digest_118 : decode cX6_digest 118 = .ok (.lstore_n 1, 1) := by decide +kernel
theorem dX6_digest_119 : decode cX6_digest 119 = .ok (.iinc 4 1, 3) := by decide +kernel
theorem dX6_digest_122 : decode cX6_digest 122 = .ok (.goto (-25), 3) := by decide +kernel
theorem dX6_digest_125 : decode cX6_digest 125 = .ok (.iinc 3 1, 3) := by decide +kernel
theorem dX6_digest_128 : decode cX6_digest 128 = .ok (.goto (-45), 3) := by decide +kernel
theorem dX6_digest_131 : decode cX6_digest 131 = .ok (.iconst 0, 1) := by decide +kernel
theorem dX6_digest_132 : decode cX6_digest 132 = .ok (.istore_n 3, 1) := by decide +kernel
theorem dX6_digest_133 : decode cX6_digest 133 = .ok (.iload_n 3, 1) := by decide +kernel
theorem dX6_digest_134 : decode cX6_digest 134 = .ok (.iconst 3, 1) := by decide +kernel
theorem dX6_digest_135 : decode cX6_digest 135 = .ok (.if_icmp .ge 16, 3) := by decide +kernel
theorem dX6_digest_138 : decode cX6_digest 138 = .ok (.aload_n 0, 1) := by decide +kernel
theorem dX6_digest_139 : decode cX6_digest 139 = .ok (.lload_n 1, 1) := by decide +kernel
theorem dX6_digest_140 : decode cX6_digest 140 = .ok (.iload_n 3, 1) := by decide +kernel
theorem dX6_digest_141 : decode cX6_digest 141 = .ok (.invokevirtual 371, 3) := by decide +kernel
theorem dX6_digest_144 : decode cX6_digest 144 = .ok (.lstore_n 1, 1) := by decide +kernel
theorem dX6_digest_145 : decode cX6_digest 145 = .ok (.iinc 3 1, 3) := by decide +kernel
theorem dX6_digest_148 : decode cX6_digest 148 = .ok (.goto (-15), 3) := by decide +kernel
theorem dX6_digest_151 : decode cX6_digest 151 = .ok (.iconst 0, 1) := by decide +kernel
theorem dX6_digest_152 : decode cX6_digest 152 = .ok (.istore_n 3, 1) := by decide +kernel
theorem dX6_digest_153 : decode cX6_digest 153 = .ok (.iload_n 3, 1) := by decide +kernel
theorem dX6_digest_154 : decode cX6_digest 154 = .ok (.aload_n 0, 1) := by decide +kernel
theorem dX6_digest_155 : decode cX6_digest 155 = .ok (.getfield 19, 3) := by decide +kernel
theorem dX6_digest_158 : decode cX6_digest 158 = .ok (.invokevirtual 47, 3) := by decide +kernel
theorem dX6_digest_161 : decode cX6_digest 161 = .ok (.if_icmp .ge 23, 3) := by decide +kernel
theorem dX6_digest_164 : decode cX6_digest 164 = .ok (.lload_n 1, 1) := by decide +kernel
theorem dX6_digest_165 : decode cX6_digest 165 = .ok (.ldc2_w 360, 3) := by decide +kernel
theorem dX6_digest_168 : decode cX6_digest 168 = .ok (.lmul, 1) := by decide +kernel
theorem dX6_digest_169 : decode cX6_digest 169 = .ok (.aload_n 0, 1) := by decide +kernel
theorem dX6_digest_170 : decode cX6_digest 170 = .ok (.iload_n 3, 1) := by decide +kernel
theorem dX6_digest_171 : decode cX6_digest 171 = .ok (.iconst 5, 1) := by decide +kernel
theorem dX6_digest_172 : decode cX6_digest 172 = .ok (.invokevirtual 375, 3) := by decide +kernel
theorem dX6_digest_175 : decode cX6_digest 175 = .ok (.i2l, 1) := by decide +kernel
theorem dX6_digest_176 : decode cX6_digest 176 = .ok (.ladd, 1) := by decide +kernel
theorem dX6_digest_177 : decode cX6_digest 177 = .ok (.lstore_n 1, 1) := by decide +kernel
theorem dX6_digest_178 : decode cX6_digest 178 = .ok (.iinc 3 1, 3) := by decide +kernel
theorem dX6_digest_181 : decode cX6_digest 181 = .ok (.goto (-28), 3) := by decide +kernel
theorem dX6_digest_184 : decode cX6_digest 184 = .ok (.lload_n 1, 1) := by decide +kernel
theorem dX6_digest_185 : decode cX6_digest 185 = .ok (.ldc2_w 360, 3) := by decide +kernel
theorem dX6_digest_188 : decode cX6_digest 188 = .ok (.lmul, 1) := by decide +kernel
theorem dX6_digest_189 : decode cX6_digest 189 = .ok (.aload_n 0, 1) := by decide +kernel
theorem dX6_digest_190 : decode cX6_digest 190 = .ok (.invokevirtual 378, 3) := by decide +kernel
theorem dX6_digest_193 : decode cX6_digest 193 = .ok (.invokestatic 235, 3) := by decide +kernel
theorem dX6_digest_196 : decode cX6_digest 196 = .ok (.i2l, 1) := by decide +kernel
theorem dX6_digest_197 : decode cX6_digest 197 = .ok (.ladd, 1) := by decide +kernel
theorem dX6_digest_198 : decode cX6_digest 198 = .ok (.lreturn, 1) := by decide +kernel
set_option maxRecDepth 20000 in
theorem ggX6_digestTill_X6_ofTill : GoodIn wsX6_digestTill wsX6_ofTill := goodIn_ca (goodIn_ca (goodIn_r _ [8, 9, 10, 11, 12, 7, 13, 14, 15, 16, 17, 18, 19, 20, 21, 22, 23, 24, 25, 26, 27, 28, 29, 30, 31, 32, 33, 34, 35, 36, 37, 38, 39, 40, 41, 42, 43, 44, 45, 46, 47, 48, 49, 50, 51, 52, 53, 54, 55, 56, 57, 58, 59, 60, 61, 62, 63, 64, 65, 66, 67, 68, 69, 70, 71, 72, 73, 74, 75, 76, 77, 78, 79, 80, 81, 82, 83, 84, 85, 86, 87, 88, 89, 90, 91, 92, 93, 94, 95, 96, 97, 2, 98, 99, 100, 101, 102, 103, 104, 105, 106, 107, 108, 109, 110, 111, 112, 113, 114, 115, 116, 117, 118, 119, 120, 121, 3, 122, 123, 124, 125, 126, 127, 128, 129, 130, 131, 132, 133, 134, 135, 136, 137, 138, 139, 140, 141, 142, 143, 144, 145, 146, 147, 148, 149, 150, 151, 152, 153, 154, 155, 156, 157, 158, 159, 160, 161, 162, 163, 164, 165, 166, 167, 168, 169, 170, 171, 172, 204, 205, 206, 207, 208, 209, 210, 211, 212, 213, 214, 215, 216, 217, 218, 219, 220, 221, 222, 223, 224, 225, 226, 227, 228, 229, 230, 231, 232, 233, 234, 235, 236, 237, 238, 239, 240, 241, 242, 243] (by decide +kernel) (by decide +kernel)) (goodIn_sub (fun _ h => List.mem_cons_of_mem _ (List.mem_append_left _ (List.mem_append_right _ h))) (by decide +kernel))) (goodIn_sub (fun _ h => List.mem_cons_of_mem _ (List.mem_append_right _ h)) (by decide +kernel))
set_option maxRecDepth 20000 in
theorem gX6_digestTill_X6_ofTill : GoodIn wsX6_digestTill (wsV RX6 381 RX6 yX6_ofTill wsX6_ofTill) := goodIn_app (goodIn_of _ (by decide +kernel)) ggX6_digestTill_X6_ofTill
set_option maxRecDepth 20000 in
theorem ggX6_digestTill_Jx4a65c_size_8abf5 : GoodIn wsX6_digestTill wsJx4a65c_size_8abf5 := goodIn_r _ [36, 37, 230, 231, 232] (by decide +kernel) (by decide +kernel)
set_option maxRecDepth 20000 in
theorem gX6_digestTill_Jx4a65c_size_8abf5 : GoodIn wsX6_digestTill (wsV RX6 47 RJx4a65c yJx4a65c_size_8abf5 wsJx4a65c_size_8abf5) := goodIn_app (goodIn_of _ (by decide +kernel)) ggX6_digestTill_Jx4a65c_size_8abf5
set_option maxRecDepth 20000 in
theorem ggX6_digestTill_X6_left : GoodIn wsX6_digestTill wsX6_left := goodIn_ca (goodIn_r _ [176, 11, 12, 7, 13, 14, 15, 177, 178, 179, 180, 2, 98, 32, 33, 34, 35, 36, 37, 38, 39, 40, 41, 42, 43, 44, 45, 46, 47, 48, 49, 50, 51, 52, 53, 54, 100, 101, 102, 103, 104, 105, 106, 65, 66, 107, 75, 67, 108, 109, 110, 111, 112, 113, 114, 115, 28, 29, 116, 117, 55, 56, 57, 58, 59, 60, 91, 92, 93, 83, 84, 85, 86, 68, 69, 70, 71, 72, 73, 74, 76, 77, 78, 79, 80, 81, 82, 204, 205, 206, 207, 208, 209, 210, 211, 212, 230, 231, 232, 233, 234, 235, 236, 237, 238, 239, 213, 214, 215, 216, 217, 218, 219, 220, 221, 222, 223, 224, 225, 226, 227, 228, 229] (by decide +kernel) (by decide +kernel)) (goodIn_sub (fun _ h => List.mem_cons_of_mem _ (List.mem_append_right _ h)) (by decide +kernel))
set_option maxRecDepth 20000 in
theorem gX6_digestTill_X6_left : GoodIn wsX6_digestTill (wsV RX6 384 RX6 yX6_left wsX6_left) := goodIn_app (goodIn_of _ (by decide +kernel)) ggX6_digestTill_X6_left
set_option maxRecDepth 20000 in
theorem ggX6_digestTill_X6_hint : GoodIn wsX6_digestTill wsX6_hint := goodIn_ca (goodIn_r _ [184, 185, 2, 98, 99, 168, 149, 186, 187, 188, 7, 189, 14, 15, 3, 122, 32, 33, 34, 35, 36, 37, 38, 39, 40, 41, 42, 43, 44, 45, 46, 47, 48, 49, 50, 51, 52, 53, 54, 11, 12, 13, 94, 95, 96, 97, 100, 101, 102, 103, 104, 105, 106, 65, 66, 107, 75, 67, 108, 109, 110, 111, 112, 113, 114, 115, 28, 29, 116, 117, 55, 56, 57, 58, 59, 60, 91, 92, 93, 83, 84, 85, 86, 68, 69, 70, 71, 72, 73, 74, 76, 77, 78, 79, 80, 81, 82, 118, 119, 120, 121, 123, 124, 125, 126, 127, 128, 129, 21, 22, 23, 130, 131, 132, 133, 134, 135, 136, 137, 138, 139, 140, 141, 142, 143, 144, 145, 146, 147, 148, 150, 151, 152, 153, 154, 155, 156, 157, 158, 159, 160, 161, 162, 163, 164, 165, 166, 167, 242, 243, 204, 205, 206, 207, 208, 209, 210, 211, 212, 233, 234, 235, 236, 237, 238, 239, 230, 231, 232, 213, 214, 215, 216, 217, 218, 219, 220, 221, 222, 223, 224, 225, 226, 227, 228, 229, 240, 241] (by decide +kernel) (by decide +kernel)) (goodIn_sub (fun _ h => List.mem_cons_of_mem _ (List.mem_append_right _ h)) (by decide +kernel))
set_option maxRecDepth 20000 in
theorem gX6_digestTill_X6_hint : GoodIn wsX6_digestTill (wsV RX6 387 RX6 yX6_hint wsX6_hint) := goodIn_app (goodIn_of _ (by decide +kernel)) ggX6_digestTill_X6_hint
set_option maxRecDepth 20000 in
theorem ggX6_digestTill_X6_wouldTake : GoodIn wsX6_digestTill wsX6_wouldTake := goodIn_ca (goodIn_r _ [193, 2, 98, 11, 12, 7, 13, 14, 15, 16, 17, 18, 19, 20, 32, 33, 34, 35, 36, 37, 38, 39, 40, 41, 42, 43, 44, 45, 46, 47, 48, 49, 50, 51, 52, 53, 54, 194, 195, 196, 197, 28, 29, 116, 117, 30, 31, 106, 108, 109, 110, 111, 55, 56, 57, 58, 59, 60, 198, 199, 200, 201, 84, 202, 203, 204, 205, 206, 207, 208, 209, 210, 211, 212, 230, 231, 232, 213, 214, 215, 216, 217, 218, 219, 220, 221, 222, 223, 224, 225, 226, 227, 228, 229, 233, 234, 235, 236, 237, 238, 239] (by decide +kernel) (by decide +kernel)) (goodIn_sub (fun _ h => List.mem_cons_of_mem _ (List.mem_append_right _ h)) (by decide +kernel))
set_option maxRecDepth 20000 in
theorem gX6_digestTill_X6_wouldTake : GoodIn wsX6_digestTill (wsV RX6 390 RX6 yX6_wouldTake wsX6_wouldTake) := goodIn_app (goodIn_of _ (by decide +kernel)) ggX6_digestTill_X6_wouldTake
theorem dX6_digestTill_0 : decode cX6_digestTill 0 = .ok (.lload_n 1, 1) := by decide +kernel
theorem dX6_digestTill_1 : decode cX6_digestTill 1 = .ok (.lstore 4, 2) := by decide +kernel
theorem dX6_digestTill_3 : decode cX6_digestTill 3 = .ok (.iconst 0, 1) := by decide +kernel
theorem dX6_digestTill_4 : decode cX6_digestTill 4 = .ok (.istore 6, 2) := by decide +kernel
theorem dX6_digestTill_6 : decode cX6_digestTill 6 = .ok (.iload 6, 2) := by decide +kernel
theorem dX6_digestTill_8 : decode cX6_digestTill 8 = .ok (.bipush 6, 2) := by decide +kernel
theorem dX6_digestTill_10 : decode cX6_digestTill 10 = .ok (.if_icmp .ge 26, 3) := by decide +kernel
theorem dX6_digestTill_13 : decode cX6_digestTill 13 = .ok (.lload 4, 2) := by decide +kernel
theorem dX6_digestTill_15 : decode cX6_digestTill 15 = .ok (.ldc2_w 360, 3) := by decide +kernel
theorem dX6_digestTill_18 : decode cX6_digestTill 18 = .ok (.lmul, 1) := by decide +kernel
theorem dX6_digestTill_19 : decode cX6_digestTill 19 = .ok (.aload_n 0, 1) := by decide +kernel
theorem dX6_digestTill_20 : decode cX6_digestTill 20 = .ok (.iload_n 3, 1) := by decide +kernel
theorem dX6_digestTill_21 : decode cX6_digestTill 21 = .ok (.iload 6, 2) := by decide +kernel
theorem dX6_digestTill_23 : decode cX6_digestTill 23 = .ok (.invokevirtual 381, 3) := by decide +kernel
theorem dX6_digestTill_26 : decode cX6_digestTill 26 = .ok (.i2l, 1) := by decide +kernel
theorem dX6_digestTill_27 : decode cX6_digestTill 27 = .ok (.ladd, 1) := by decide +kernel
theorem dX6_digestTill_28 : decode cX6_digestTill 28 = .ok (.lstore 4, 2) := by decide +kernel
theorem dX6_digestTill_30 : decode cX6_digestTill 30 = .ok (.iinc 6 1, 3) := by decide +kernel
theorem dX6_digestTill_33 : decode cX6_digestTill 33 = .ok (.goto (-27), 3) := by decide +kernel
theorem dX6_digestTill_36 : decode cX6_digestTill 36 = .ok (.iconst 0, 1) := by decide +kernel
theorem dX6_digestTill_37 : decode cX6_digestTill 37 = .ok (.istore 6, 2) := by decide +kernel
theorem dX6_digestTill_39 : decode cX6_digestTill 39 = .ok (.iload 6, 2) := by decide +kernel
theorem dX6_digestTill_41 : decode cX6_digestTill 41 = .ok (.aload_n 0, 1) := by decide +kernel
theorem dX6_digestTill_42 : decode cX6_digestTill 42 = .ok (.getfield 12, 3) := by decide +kernel
theorem dX6_digestTill_45 : decode cX6_digestTill 45 = .ok (.invokevirtual 47, 3) := by decide +kernel
theorem dX6_digestTill_48 : decode cX6_digestTill 48 = .ok (.if_icmp .ge 26, 3) := by decide +kernel
theorem dX6_digestTill_51 : decode cX6_digestTill 51 = .ok (.lload 4, 2) := by decide +kernel
theorem dX6_digestTill_53 : decode cX6_digestTill 53 = .ok (.ldc2_w 360, 3) := by decide +kernel
theorem dX6_digestTill_56 : decode cX6_digestTill 56 = .ok (.lmul, 1) := by decide +kernel
theorem dX6_digestTill_57 : decode cX6_digestTill 57 = .ok (.aload_n 0, 1) := by decide +kernel
theorem dX6_digestTill_58 : decode cX6_digestTill 58 = .ok (.iload_n 3, 1) := by decide +kernel
theorem dX6_digestTill_59 : decode cX6_digestTill 59 = .ok (.iload 6, 2) := by decide +kernel
theorem dX6_digestTill_61 : decode cX6_digestTill 61 = .ok (.invokevirtual 384, 3) := by decide +kernel
theorem dX6_digestTill_64 : decode cX6_digestTill 64 = .ok (.i2l, 1) := by decide +kernel
theorem dX6_digestTill_65 : decode cX6_digestTill 65 = .ok (.ladd, 1) := by decide +kernel
theorem dX6_digestTill_66 : decode cX6_digestTill 66 = .ok (.lstore 4, 2) := by decide +kernel
theorem dX6_digestTill_68 : decode cX6_digestTill 68 = .ok (.iinc 6 1, 3) := by decide +kernel
theorem dX6_digestTill_71 : decode cX6_digestTill 71 = .ok (.goto (-32), 3) := by decide +kernel
theorem dX6_digestTill_74 : decode cX6_digestTill 74 = .ok (.iconst 0, 1) := by decide +kernel
theorem dX6_digestTill_75 : decode cX6_digestTill 75 = .ok (.istore 6, 2) := by decide +kernel
theorem dX6_digestTill_77 : decode cX6_digestTill 77 = .ok (.iload 6, 2) := by decide +kernel
theorem dX6_digestTill_79 : decode cX6_digestTill 79 = .ok (.aload_n 0, 1) := by decide +kernel
theorem dX6_digestTill_80 : decode cX6_digestTill 80 = .ok (.getfield 16, 3) := by decide +kernel
theorem dX6_digestTill_83 : decode cX6_digestTill 83 = .ok (.invokevirtual 47, 3) := by decide +kernel
theorem dX6_digestTill_86 : decode cX6_digestTill 86 = .ok (.if_icmp .ge 26, 3) := by decide +kernel
theorem dX6_digestTill_89 : decode cX6_digestTill 89 = .ok (.lload 4, 2) := by decide +kernel
theorem dX6_digestTill_91 : decode cX6_digestTill 91 = .ok (.ldc2_w 360, 3) := by decide +kernel
theorem dX6_digestTill_94 : decode cX6_digestTill 94 = .ok (.lmul, 1) := by decide +kernel
theorem dX6_digestTill_95 : decode cX6_digestTill 95 = .ok (.aload_n 0, 1) := by decide +kernel
theorem dX6_digestTill_96 : decode cX6_digestTill 96 = .ok (.iload 6, 2) := by decide +kernel
theorem dX6_digestTill_98 : decode cX6_digestTill 98 = .ok (.iload_n 3, 1) := by decide +kernel
theorem dX6_digestTill_99 : decode cX6_digestTill 99 = .ok (.invokevirtual 387, 3) := by decide +kernel
theorem dX6_digestTill_102 : decode cX6_digestTill 102 = .ok (.i2l, 1) := by decide +kernel
theorem dX6_digestTill_103 : decode cX6_digestTill 103 = .ok (.ladd, 1) := by decide +kernel
theorem dX6_digestTill_104 : decode cX6_digestTill 104 = .ok (.lstore 4, 2) := by decide +kernel
theorem dX6_digestTill_106 : decode cX6_digestTill 106 = .ok (.iinc 6 1, 3) := by decide +kernel
theorem dX6_digestTill_109 : decode cX6_digestTill 109 = .ok (.goto (-32), 3) := by decide +kernel
theorem dX6_digestTill_112 : decode cX6_digestTill 112 = .ok (.lload 4, 2) := by decide +kernel
theorem dX6_digestTill_114 : decode cX6_digestTill 114 = .ok (.ldc2_w 360, 3) := by decide +kernel
theorem dX6_digestTill_117 : decode cX6_digestTill 117 = .ok (.lmul, 1) := by decide +kernel
theorem dX6_digestTill_118 : decode cX6_digestTill 118 = .ok (.aload_n 0, 1) := by decide +kernel
theorem dX6_digestTill_119 : decode cX6_digestTill 119 = .ok (.iload_n 3, 1) := by decide +kernel
theorem dX6_digestTill_120 : decode cX6_digestTill 120 = .ok (.invokevirtual 390, 3) := by decide +kernel
theorem dX6_digestTill_123 : decode cX6_digestTill 123 = .ok (.i2l, 1) := by decide +kernel
theorem dX6_digestTill_124 : decode cX6_digestTill 124 = .ok (.ladd, 1) := by decide +kernel
theorem dX6_digestTill_125 : decode cX6_digestTill 125 = .ok (.lreturn, 1) := by decide +kernel
theorem dX6_checkTill_0 : decode cX6_checkTill 0 = .ok (.iload_n 0, 1) := by decide +kernel
theorem dX6_checkTill_1 : decode cX6_checkTill 1 = .ok (.ifCond .lt 8, 3) := by decide +kernel
theorem dX6_checkTill_4 : decode cX6_checkTill 4 = .ok (.iload_n 0, 1) := by decide +kernel
theorem dX6_checkTill_5 : decode cX6_checkTill 5 = .ok (.iconst 3, 1) := by decide +kernel
theorem dX6_checkTill_6 : decode cX6_checkTill 6 = .ok (.if_icmp .lt 14, 3) := by decide +kernel
theorem dX6_checkTill_9 : decode cX6_checkTill 9 = .ok (.new 284, 3) := by decide +kernel
theorem dX6_checkTill_12 : decode cX6_checkTill 12 = .ok (.dup, 1) := by decide +kernel
theorem dX6_checkTill_13 : decode cX6_checkTill 13 = .ok (.ldc_w 393, 3) := by decide +kernel
theorem dX6_checkTill_16 : decode cX6_checkTill 16 = .ok (.invokespecial 286, 3) := by decide +kernel
theorem dX6_checkTill_19 : decode cX6_checkTill 19 = .ok (.athrow, 1) := by decide +kernel
theorem dX6_checkTill_20 : decode cX6_checkTill 20 = .ok (.return_, 1) := by decide +kernel
set_option maxRecDepth 20000 in
theorem ggX6_wishNumbered_Jx4a65c_size_8abf5 : GoodIn wsX6_wishNumbered wsJx4a65c_size_8abf5 := goodIn_r _ [9, 10, 37, 38, 39] (by decide +kernel) (by decide +kernel)
set_option maxRecDepth 20000 in
theorem gX6_wishNumbered_Jx4a65c_size_8abf5 : GoodIn wsX6_wishNumbered (wsV RX6 47 RJx4a65c yJx4a65c_size_8abf5 wsJx4a65c_size_8abf5) := goodIn_app (goodIn_of _ (by decide +kernel)) ggX6_wishNumbered_Jx4a65c_size_8abf5
set_option maxRecDepth 20000 in
theorem ggX6_wishNumbered_Jx4a65c_get_915e3 : GoodIn wsX6_wishNumbered wsJx4a65c_get_915e3 := goodIn_r _ [14, 10, 15, 16, 17, 18, 19, 20, 21, 22, 23, 24, 25, 8, 26, 27, 37, 38, 39] (by decide +kernel) (by decide +kernel)
set_option maxRecDepth 20000 in
theorem gX6_wishNumbered_Jx4a65c_get_915e3 : GoodIn wsX6_wishNumbered (wsV RX6 122 RJx4a65c yJx4a65c_get_915e3 wsJx4a65c_get_915e3) := goodIn_app (goodIn_of _ (by decide +kernel)) ggX6_wishNumbered_Jx4a65c_get_915e3
theorem dX6_wishNumbered_0 : decode cX6_wishNumbered 0 = .ok (.iload_n 1, 1) := by decide +kernel
theorem dX6_wishNumbered_1 : decode cX6_wishNumbered 1 = .ok (.ifCond .lt 14, 3) := by decide +kernel
theorem dX6_wishNumbered_4 : decode cX6_wishNumbered 4 = .ok (.iload_n 1, 1) := by decide +kernel
theorem dX6_wishNumbered_5 : decode cX6_wishNumbered 5 = .ok (.aload_n 0, 1) := by decide +kernel
theorem dX6_wishNumbered_6 : decode cX6_wishNumbered 6 = .ok (.getfield 12, 3) := by decide +kernel
theorem dX6_wishNumbered_9 : decode cX6_wishNumbered 9 = .ok (.invokevirtual 47, 3) := by decide +kernel
theorem dX6_wishNumbered_12 : decode cX6_wishNumbered 12 = .ok (.if_icmp .lt 14, 3) := by decide +kernel
theorem dX6_wishNumbered_15 : decode cX6_wishNumbered 15 = .ok (.new 284, 3) := by decide +kernel
theorem dX6_wishNumbered_18 : decode cX6_wishNumbered 18 = .ok (.dup, 1) := by decide +kernel
theorem dX6_wishNumbered_19 : decode cX6_wishNumbered 19 = .ok (.ldc_w 395, 3) := by decide +kernel
theorem dX6_wishNumbered_22 : decode cX6_wishNumbered 22 = .ok (.invokespecial 286, 3) := by decide +kernel
theorem dX6_wishNumbered_25 : decode cX6_wishNumbered 25 = .ok (.athrow, 1) := by decide +kernel
theorem dX6_wishNumbered_26 : decode cX6_wishNumbered 26 = .ok (.aload_n 0, 1) := by decide +kernel
theorem dX6_wishNumbered_27 : decode cX6_wishNumbered 27 = .ok (.getfield 12, 3) := by decide +kernel
theorem dX6_wishNumbered_30 : decode cX6_wishNumbered 30 = .ok (.iload_n 1, 1) := by decide +kernel
theorem dX6_wishNumbered_31 : decode cX6_wishNumbered 31 = .ok (.invokevirtual 122, 3) := by decide +kernel
theorem dX6_wishNumbered_34 : decode cX6_wishNumbered 34 = .ok (.checkcast 56, 3) := by decide +kernel
theorem dX6_wishNumbered_37 : decode cX6_wishNumbered 37 = .ok (.areturn, 1) := by decide +kernel
set_option maxRecDepth 20000 in
theorem ggX6_guestNumbered_Jx4a65c_size_8abf5 : GoodIn wsX6_guestNumbered wsJx4a65c_size_8abf5 := goodIn_r _ [9, 10, 37, 38, 39] (by decide +kernel) (by decide +kernel)
set_option maxRecDepth 20000 in
theorem gX6_guestNumbered_Jx4a65c_size_8abf5 : GoodIn wsX6_guestNumbered (wsV RX6 47 RJx4a65c yJx4a65c_size_8abf5 wsJx4a65c_size_8abf5) := goodIn_app (goodIn_of _ (by decide +kernel)) ggX6_guestNumbered_Jx4a65c_size_8abf5
set_option maxRecDepth 20000 in
theorem ggX6_guestNumbered_Jx4a65c_get_915e3 : GoodIn wsX6_guestNumbered wsJx4a65c_get_915e3 := goodIn_r _ [14, 10, 15, 16, 17, 18, 19, 20, 21, 22, 23, 24, 25, 8, 26, 27, 37, 38, 39] (by decide +kernel) (by decide +kernel)
set_option maxRecDepth 20000 in
theorem gX6_guestNumbered_Jx4a65c_get_915e3 : GoodIn wsX6_guestNumbered (wsV RX6 122 RJx4a65c yJx4a65c_get_915e3 wsJx4a65c_get_915e3) := goodIn_app (goodIn_of _ (by decide +kernel)) ggX6_guestNumbered_Jx4a65c_get_915e3
theorem dX6_guestNumbered_0 : decode cX6_guestNumbered 0 = .ok (.iload_n 1, 1) := by decide +kernel
theorem dX6_guestNumbered_1 : decode cX6_guestNumbered 1 = .ok (.ifCond .lt 14, 3) := by decide +kernel
theorem dX6_guestNumbered_4 : decode cX6_guestNumbered 4 = .ok (.iload_n 1, 1) := by decide +kernel
theorem dX6_guestNumbered_5 : decode cX6_guestNumbered 5 = .ok (.aload_n 0, 1) := by decide +kernel
theorem dX6_guestNumbered_6 : decode cX6_guestNumbered 6 = .ok (.getfield 16, 3) := by decide +kernel
theorem dX6_guestNumbered_9 : decode cX6_guestNumbered 9 = .ok (.invokevirtual 47, 3) := by decide +kernel
theorem dX6_guestNumbered_12 : decode cX6_guestNumbered 12 = .ok (.if_icmp .lt 14, 3) := by decide +kernel
theorem dX6_guestNumbered_15 : decode cX6_guestNumbered 15 = .ok (.new 284, 3) := by decide +kernel
theorem dX6_guestNumbered_18 : decode cX6_guestNumbered 18 = .ok (.dup, 1) := by decide +kernel
theorem dX6_guestNumbered_19 : decode cX6_guestNumbered 19 = .ok (.ldc_w 397, 3) := by decide +kernel
theorem dX6_guestNumbered_22 : decode cX6_guestNumbered 22 = .ok (.invokespecial 286, 3) := by decide +kernel
theorem dX6_guestNumbered_25 : decode cX6_guestNumbered 25 = .ok (.athrow, 1) := by decide +kernel
theorem dX6_guestNumbered_26 : decode cX6_guestNumbered 26 = .ok (.aload_n 0, 1) := by decide +kernel
theorem dX6_guestNumbered_27 : decode cX6_guestNumbered 27 = .ok (.getfield 16, 3) := by decide +kernel
theorem dX6_guestNumbered_30 : decode cX6_guestNumbered 30 = .ok (.iload_n 1, 1) := by decide +kernel
theorem dX6_guestNumbered_31 : decode cX6_guestNumbered 31 = .ok (.invokevirtual 122, 3) := by decide +kernel
theorem dX6_guestNumbered_34 : decode cX6_guestNumbered 34 = .ok (.checkcast 69, 3) := by decide +kernel
theorem dX6_guestNumbered_37 : decode cX6_guestNumbered 37 = .ok (.areturn, 1) := by decide +kernel
theorem dX6_refuseIfCalledOff_0 : decode cX6_refuseIfCalledOff 0 = .ok (.aload_n 0, 1) := by decide +kernel
theorem dX6_refuseIfCalledOff_1 : decode cX6_refuseIfCalledOff 1 = .ok (.getfield 229, 3) := by decide +kernel
theorem dX6_refuseIfCalledOff_4 : decode cX6_refuseIfCalledOff 4 = .ok (.ifCond .eq 14, 3) := by decide +kernel
theorem dX6_refuseIfCalledOff_7 : decode cX6_refuseIfCalledOff 7 = .ok (.new 51, 3) := by decide +kernel
theorem dX6_refuseIfCalledOff_10 : decode cX6_refuseIfCalledOff 10 = .ok (.dup, 1) := by decide +kernel
theorem dX6_refuseIfCalledOff_11 : decode cX6_refuseIfCalledOff 11 = .ok (.ldc_w 399, 3) := by decide +kernel
theorem dX6_refuseIfCalledOff_14 : decode cX6_refuseIfCalledOff 14 = .ok (.invokespecial 55, 3) := by decide +kernel
theorem dX6_refuseIfCalledOff_17 : decode cX6_refuseIfCalledOff 17 = .ok (.athrow, 1) := by decide +kernel
theorem dX6_refuseIfCalledOff_18 : decode cX6_refuseIfCalledOff 18 = .ok (.return_, 1) := by decide +kernel
set_option maxRecDepth 20000 in
theorem ggX6_refuseIfSettled_X6_refuseIfCalledOff : GoodIn wsX6_refuseIfSettled wsX6_refuseIfCalledOff := goodIn_ca (goodIn_r _ [8, 1, 2, 9, 62, 63, 64, 65, 66, 67, 68, 69, 70] (by decide +kernel) (by decide +kernel)) (goodIn_sub (fun _ h => List.mem_cons_of_mem _ (List.mem_append_right _ h)) (by decide +kernel))
set_option maxRecDepth 20000 in
theorem gX6_refuseIfSettled_X6_refuseIfCalledOff : GoodIn wsX6_refuseIfSettled (wsV RX6 44 RX6 yX6_refuseIfCalledOff wsX6_refuseIfCalledOff) := goodIn_app (goodIn_of _ (by decide +kernel)) ggX6_refuseIfSettled_X6_refuseIfCalledOff
set_option maxRecDepth 20000 in
theorem ggX6_refuseIfSettled_X5_isOrdered : GoodIn wsX6_refuseIfSettled wsX5_isOrdered := goodIn_r _ [14, 15, 16, 17, 18, 13, 19, 20, 21, 22, 23, 24, 25, 26, 27, 28, 29, 30, 31, 32, 33, 34, 35, 36, 37, 38, 39, 40, 41, 42, 43, 44, 45, 46, 47, 48, 49, 50, 51, 52, 53, 54, 55, 56, 57, 58, 59, 60, 61, 71, 72, 73, 74, 75] (by decide +kernel) (by decide +kernel)
set_option maxRecDepth 20000 in
theorem gX6_refuseIfSettled_X5_isOrdered : GoodIn wsX6_refuseIfSettled (wsV RX6 242 RX5 yX5_isOrdered wsX5_isOrdered) := goodIn_app (goodIn_of _ (by decide +kernel)) ggX6_refuseIfSettled_X5_isOrdered
theorem dX6_refuseIfSettled_0 : decode cX6_refuseIfSettled 0 = .ok (.aload_n 0, 1) := by decide +kernel
theorem dX6_refuseIfSettled_1 : decode cX6_refuseIfSettled 1 = .ok (.invokevirtual 44, 3) := by decide +kernel
theorem dX6_refuseIfSettled_4 : decode cX6_refuseIfSettled 4 = .ok (.aload_n 1, 1) := by decide +kernel
theorem dX6_refuseIfSettled_5 : decode cX6_refuseIfSettled 5 = .ok (.getfield 98, 3) := by decide +kernel
theorem dX6_refuseIfSettled_8 : decode cX6_refuseIfSettled 8 = .ok (.ifCond .eq 14, 3) := by decide +kernel
theorem dX6_refuseIfSettled_11 : decode cX6_refuseIfSettled 11 = .ok (.new 51, 3) := by decide +kernel
theorem dX6_refuseIfSettled_14 : decode cX6_refuseIfSettled 14 = .ok (.dup, 1) := by decide +kernel
theorem dX6_refuseIfSettled_15 : decode cX6_refuseIfSettled 15 = .ok (.ldc_w 401, 3) := by decide +kernel
theorem dX6_refuseIfSettled_18 : decode cX6_refuseIfSettled 18 = .ok (.invokespecial 55, 3) := by decide +kernel
theorem dX6_refuseIfSettled_21 : decode cX6_refuseIfSettled 21 = .ok (.athrow, 1) := by decide +kernel
theorem dX6_refuseIfSettled_22 : decode cX6_refuseIfSettled 22 = .ok (.aload_n 1, 1) := by decide +kernel
theorem dX6_refuseIfSettled_23 : decode cX6_refuseIfSettled 23 = .ok (.invokevirtual 242, 3) := by decide +kernel
theorem dX6_refuseIfSettled_26 : decode cX6_refuseIfSettled 26 = .ok (.ifCond .eq 14, 3) := by decide +kernel
theorem dX6_refuseIfSettled_29 : decode cX6_refuseIfSettled 29 = .ok (.new 51, 3) := by decide +kernel
theorem dX6_refuseIfSettled_32 : decode cX6_refuseIfSettled 32 = .ok (.dup, 1) := by decide +kernel
theorem dX6_refuseIfSettled_33 : decode cX6_refuseIfSettled 33 = .ok (.ldc_w 403, 3) := by decide +kernel
theorem dX6_refuseIfSettled_36 : decode cX6_refuseIfSettled 36 = .ok (.invokespecial 55, 3) := by decide +kernel
theorem dX6_refuseIfSettled_39 : decode cX6_refuseIfSettled 39 = .ok (.athrow, 1) := by decide +kernel
theorem dX6_refuseIfSettled_40 : decode cX6_refuseIfSettled 40 = .ok (.return_, 1) := by decide +kernel
theorem dX6_pay_0 : decode cX6_pay 0 = .ok (.aload_n 1, 1) := by decide +kernel
theorem dX6_pay_1 : decode cX6_pay 1 = .ok (.dup, 1) := by decide +kernel
theorem dX6_pay_2 : decode cX6_pay 2 = .ok (.getfield 158, 3) := by decide +kernel
theorem dX6_pay_5 : decode cX6_pay 5 = .ok (.iload_n 2, 1) := by decide +kernel
theorem dX6_pay_6 : decode cX6_pay 6 = .ok (.isub, 1) := by decide +kernel
theorem dX6_pay_7 : decode cX6_pay 7 = .ok (.putfield 158, 3) := by decide +kernel
theorem dX6_pay_10 : decode cX6_pay 10 = .ok (.aload_n 0, 1) := by decide +kernel
theorem dX6_pay_11 : decode cX6_pay 11 = .ok (.dup, 1) := by decide +kernel
theorem dX6_pay_12 : decode cX6_pay 12 = .ok (.getfield 303, 3) := by decide +kernel
theorem dX6_pay_15 : decode cX6_pay 15 = .ok (.iload_n 2, 1) := by decide +kernel
theorem dX6_pay_16 : decode cX6_pay 16 = .ok (.iadd, 1) := by decide +kernel
theorem dX6_pay_17 : decode cX6_pay 17 = .ok (.putfield 303, 3) := by decide +kernel
theorem dX6_pay_20 : decode cX6_pay 20 = .ok (.return_, 1) := by decide +kernel
theorem dX6_payBack_0 : decode cX6_payBack 0 = .ok (.aload_n 1, 1) := by decide +kernel
theorem dX6_payBack_1 : decode cX6_payBack 1 = .ok (.dup, 1) := by decide +kernel
theorem dX6_payBack_2 : decode cX6_payBack 2 = .ok (.getfield 158, 3) := by decide +kernel
theorem dX6_payBack_5 : decode cX6_payBack 5 = .ok (.iload_n 2, 1) := by decide +kernel
theorem dX6_payBack_6 : decode cX6_payBack 6 = .ok (.iadd, 1) := by decide +kernel
theorem dX6_payBack_7 : decode cX6_payBack 7 = .ok (.putfield 158, 3) := by decide +kernel
theorem dX6_payBack_10 : decode cX6_payBack 10 = .ok (.aload_n 0, 1) := by decide +kernel
theorem dX6_payBack_11 : decode cX6_payBack 11 = .ok (.dup, 1) := by decide +kernel
theorem dX6_payBack_12 : decode cX6_payBack 12 = .ok (.getfield 306, 3) := by decide +kernel
theorem dX6_payBack_15 : decode cX6_payBack 15 = .ok (.iload_n 2, 1) := by decide +kernel
theorem dX6_payBack_16 : decode cX6_payBack 16 = .ok (.iadd, 1) := by decide +kernel
theorem dX6_payBack_17 : decode cX6_payBack 17 = .ok (.putfield 306, 3) := by decide +kernel
theorem dX6_payBack_20 : decode cX6_payBack 20 = .ok (.return_, 1) := by decide +kernel
set_option maxRecDepth 20000 in
theorem ggX6_endGift_X6_payBack : GoodIn wsX6_endGift wsX6_payBack := goodIn_r _ [9, 10, 11, 29, 30, 31, 32, 33, 34, 35, 36, 37, 38, 39] (by decide +kernel) (by decide +kernel)
set_option maxRecDepth 20000 in
theorem gX6_endGift_X6_payBack : GoodIn wsX6_endGift (wsV RX6 405 RX6 yX6_payBack wsX6_payBack) := goodIn_app (goodIn_of _ (by decide +kernel)) ggX6_endGift_X6_payBack
theorem dX6_endGift_0 : decode cX6_endGift 0 = .ok (.aload_n 1, 1) := by decide +kernel
theorem dX6_endGift_1 : decode cX6_endGift 1 = .ok (.iload_n 2, 1) := by decide +kernel
theorem dX6_endGift_2 : decode cX6_endGift 2 = .ok (.putfield 297, 3) := by decide +kernel
theorem dX6_endGift_5 : decode cX6_endGift 5 = .ok (.aload_n 0, 1) := by decide +kernel
theorem dX6_endGift_6 : decode cX6_endGift 6 = .ok (.aload_n 1, 1) := by decide +kernel
theorem dX6_endGift_7 : decode cX6_endGift 7 = .ok (.getfield 181, 3) := by decide +kernel
theorem dX6_endGift_10 : decode cX6_endGift 10 = .ok (.aload_n 1, 1) := by decide +kernel
theorem dX6_endGift_11 : decode cX6_endGift 11 = .ok (.getfield 294, 3) := by decide +kernel
theorem dX6_endGift_14 : decode cX6_endGift 14 = .ok (.invokevirtual 405, 3) := by decide +kernel
theorem dX6_endGift_17 : decode cX6_endGift 17 = .ok (.aload_n 1, 1) := by decide +kernel
theorem dX6_endGift_18 : decode cX6_endGift 18 = .ok (.getfield 294, 3) := by decide +kernel
theorem dX6_endGift_21 : decode cX6_endGift 21 = .ok (.ireturn, 1) := by decide +kernel
set_option maxRecDepth 20000 in
theorem ggX6_sendPledgesBack_Jx4a65c_size_8abf5 : GoodIn wsX6_sendPledgesBack wsJx4a65c_size_8abf5 := goodIn_r _ [16, 17, 65, 66, 67] (by decide +kernel) (by decide +kernel)
set_option maxRecDepth 20000 in
theorem gX6_sendPledgesBack_Jx4a65c_size_8abf5 : GoodIn wsX6_sendPledgesBack (wsV RX6 47 RJx4a65c yJx4a65c_size_8abf5 wsJx4a65c_size_8abf5) := goodIn_app (goodIn_of _ (by decide +kernel)) ggX6_sendPledgesBack_Jx4a65c_size_8abf5
set_option maxRecDepth 20000 in
theorem ggX6_sendPledgesBack_Jx4a65c_get_915e3 : GoodIn wsX6_sendPledgesBack wsJx4a65c_get_915e3 := goodIn_r _ [21, 17, 22, 23, 24, 25, 26, 27, 28, 29, 30, 31, 32, 15, 33, 34, 65, 66, 67] (by decide +kernel) (by decide +kernel)
set_option maxRecDepth 20000 in
theorem gX6_sendPledgesBack_Jx4a65c_get_915e3 : GoodIn wsX6_sendPledgesBack (wsV RX6 122 RJx4a65c yJx4a65c_get_915e3 wsJx4a65c_get_915e3) := goodIn_app (goodIn_of _ (by decide +kernel)) ggX6_sendPledgesBack_Jx4a65c_get_915e3
set_option maxRecDepth 20000 in
theorem ggX6_sendPledgesBack_X6_payBack : GoodIn wsX6_sendPledgesBack wsX6_payBack := goodIn_r _ [39, 40, 41, 68, 69, 70, 71, 72, 73, 74, 75, 76, 77, 78] (by decide +kernel) (by decide +kernel)
set_option maxRecDepth 20000 in
theorem gX6_sendPledgesBack_X6_payBack : GoodIn wsX6_sendPledgesBack (wsV RX6 405 RX6 yX6_payBack wsX6_payBack) := goodIn_app (goodIn_of _ (by decide +kernel)) ggX6_sendPledgesBack_X6_payBack
set_option maxRecDepth 20000 in
theorem ggX6_sendPledgesBack_Jx4a65c_remove_915e3 : GoodIn wsX6_sendPledgesBack wsJx4a65c_remove_915e3 := goodIn_r _ [45, 17, 34, 22, 23, 24, 25, 26, 27, 28, 29, 46, 47, 48, 15, 49, 50, 51, 52, 53, 54, 55, 65, 66, 67] (by decide +kernel) (by decide +kernel)
set_option maxRecDepth 20000 in
theorem gX6_sendPledgesBack_Jx4a65c_remove_915e3 : GoodIn wsX6_sendPledgesBack (wsV RX6 415 RJx4a65c yJx4a65c_remove_915e3 wsJx4a65c_remove_915e3) := goodIn_app (goodIn_of _ (by decide +kernel)) ggX6_sendPledgesBack_Jx4a65c_remove_915e3
theorem dX6_sendPledgesBack_0 : decode cX6_sendPledgesBack 0 = .ok (.iconst 0, 1) := by decide +kernel
theorem dX6_sendPledgesBack_1 : decode cX6_sendPledgesBack 1 = .ok (.iload_n 2, 1) := by decide +kernel
theorem dX6_sendPledgesBack_2 : decode cX6_sendPledgesBack 2 = .ok (.invokestatic 408, 3) := by decide +kernel
theorem dX6_sendPledgesBack_5 : decode cX6_sendPledgesBack 5 = .ok (.istore_n 3, 1) := by decide +kernel
theorem dX6_sendPledgesBack_6 : decode cX6_sendPledgesBack 6 = .ok (.iconst 0, 1) := by decide +kernel
theorem dX6_sendPledgesBack_7 : decode cX6_sendPledgesBack 7 = .ok (.istore 4, 2) := by decide +kernel
theorem dX6_sendPledgesBack_9 : decode cX6_sendPledgesBack 9 = .ok (.aload_n 1, 1) := by decide +kernel
theorem dX6_sendPledgesBack_10 : decode cX6_sendPledgesBack 10 = .ok (.getfield 215, 3) := by decide +kernel
theorem dX6_sendPledgesBack_13 : decode cX6_sendPledgesBack 13 = .ok (.invokevirtual 47, 3) := by decide +kernel
theorem dX6_sendPledgesBack_16 : decode cX6_sendPledgesBack 16 = .ok (.iconst 1, 1) := by decide +kernel
theorem dX6_sendPledgesBack_17 : decode cX6_sendPledgesBack 17 = .ok (.isub, 1) := by decide +kernel
theorem dX6_sendPledgesBack_18 : decode cX6_sendPledgesBack 18 = .ok (.istore 5, 2) := by decide +kernel
theorem dX6_sendPledgesBack_20 : decode cX6_sendPledgesBack 20 = .ok (.iload 5, 2) := by decide +kernel
theorem dX6_sendPledgesBack_22 : decode cX6_sendPledgesBack 22 = .ok (.ifCond .lt 91, 3) := by decide +kernel
theorem dX6_sendPledgesBack_25 : decode cX6_sendPledgesBack 25 = .ok (.iload_n 3, 1) := by decide +kernel
theorem dX6_sendPledgesBack_26 : decode cX6_sendPledgesBack 26 = .ok (.ifCond .le 87, 3) := by decide +kernel
theorem dX6_sendPledgesBack_29 : decode cX6_sendPledgesBack 29 = .ok (.aload_n 1, 1) := by decide +kernel
theorem dX6_sendPledgesBack_30 : decode cX6_sendPledgesBack 30 = .ok (.getfield 215, 3) := by decide +kernel
theorem dX6_sendPledgesBack_33 : decode cX6_sendPledgesBack 33 = .ok (.iload 5, 2) := by decide +kernel
theorem dX6_sendPledgesBack_35 : decode cX6_sendPledgesBack 35 = .ok (.invokevirtual 122, 3) := by decide +kernel
theorem dX6_sendPledgesBack_38 : decode cX6_sendPledgesBack 38 = .ok (.checkcast 218, 3) := by decide +kernel
theorem dX6_sendPledgesBack_41 : decode cX6_sendPledgesBack 41 = .ok (.astore 6, 2) := by decide +kernel
theorem dX6_sendPledgesBack_43 : decode cX6_sendPledgesBack 43 = .ok (.aload 6, 2) := by decide +kernel
theorem dX6_sendPledgesBack_45 : decode cX6_sendPledgesBack 45 = .ok (.getfield 411, 3) := by decide +kernel
theorem dX6_sendPledgesBack_48 : decode cX6_sendPledgesBack 48 = .ok (.iload_n 3, 1) := by decide +kernel
theorem dX6_sendPledgesBack_49 : decode cX6_sendPledgesBack 49 = .ok (.invokestatic 209, 3) := by decide +kernel
theorem dX6_sendPledgesBack_52 : decode cX6_sendPledgesBack 52 = .ok (.istore 7, 2) := by decide +kernel
theorem dX6_sendPledgesBack_54 : decode cX6_sendPledgesBack 54 = .ok (.aload_n 0, 1) := by decide +kernel
theorem dX6_sendPledgesBack_55 : decode cX6_sendPledgesBack 55 = .ok (.aload 6, 2) := by decide +kernel
theorem dX6_sendPledgesBack_57 : decode cX6_sendPledgesBack 57 = .ok (.getfield 414, 3) := by decide +kernel
theorem dX6_sendPledgesBack_60 : decode cX6_sendPledgesBack 60 = .ok (.iload 7, 2) := by decide +kernel
theorem dX6_sendPledgesBack_62 : decode cX6_sendPledgesBack 62 = .ok (.invokevirtual 405, 3) := by decide +kernel
theorem dX6_sendPledgesBack_65 : decode cX6_sendPledgesBack 65 = .ok (.iload_n 3, 1) := by decide +kernel
theorem dX6_sendPledgesBack_66 : decode cX6_sendPledgesBack 66 = .ok (.iload 7, 2) := by decide +kernel
theorem dX6_sendPledgesBack_68 : decode cX6_sendPledgesBack 68 = .ok (.isub, 1) := by decide +kernel
theorem dX6_sendPledgesBack_69 : decode cX6_sendPledgesBack 69 = .ok (.istore_n 3, 1) := by decide +kernel
theorem dX6_sendPledgesBack_70 : decode cX6_sendPledgesBack 70 = .ok (.iload 4, 2) := by decide +kernel
theorem dX6_sendPledgesBack_72 : decode cX6_sendPledgesBack 72 = .ok (.iload 7, 2) := by decide +kernel
theorem dX6_sendPledgesBack_74 : decode cX6_sendPledgesBack 74 = .ok (.iadd, 1) := by decide +kernel
theorem dX6_sendPledgesBack_75 : decode cX6_sendPledgesBack 75 = .ok (.istore 4, 2) := by decide +kernel
theorem dX6_sendPledgesBack_77 : decode cX6_sendPledgesBack 77 = .ok (.aload 6, 2) := by decide +kernel
theorem dX6_sendPledgesBack_79 : decode cX6_sendPledgesBack 79 = .ok (.dup, 1) := by decide +kernel
theorem dX6_sendPledgesBack_80 : decode cX6_sendPledgesBack 80 = .ok (.getfield 411, 3) := by decide +kernel
theorem dX6_sendPledgesBack_83 : decode cX6_sendPledgesBack 83 = .ok (.iload 7, 2) := by decide +kernel
theorem dX6_sendPledgesBack_85 : decode cX6_sendPledgesBack 85 = .ok (.isub, 1) := by decide +kernel
theorem dX6_sendPledgesBack_86 : decode cX6_sendPledgesBack 86 = .ok (.putfield 411, 3) := by decide +kernel
theorem dX6_sendPledgesBack_89 : decode cX6_sendPledgesBack 89 = .ok (.aload 6, 2) := by decide +kernel
theorem dX6_sendPledgesBack_91 : decode cX6_sendPledgesBack 91 = .ok (.getfield 411, 3) := by decide +kernel
theorem dX6_sendPledgesBack_94 : decode cX6_sendPledgesBack 94 = .ok (.ifCond .ne 13, 3) := by decide +kernel
theorem dX6_sendPledgesBack_97 : decode cX6_sendPledgesBack 97 = .ok (.aload_n 1, 1) := by decide +kernel
theorem dX6_sendPledgesBack_98 : decode cX6_sendPledgesBack 98 = .ok (.getfield 215, 3) := by decide +kernel
theorem dX6_sendPledgesBack_101 : decode cX6_sendPledgesBack 101 = .ok (.iload 5, 2) := by decide +kernel
theorem dX6_sendPledgesBack_103 : decode cX6_sendPledgesBack 103 = .ok (.invokevirtual 415, 3) := by decide +kernel
theorem dX6_sendPledgesBack_106 : decode cX6_sendPledgesBack 106 = .ok (.pop, 1) := by decide +kernel
theorem dX6_sendPledgesBack_107 : decode cX6_sendPledgesBack 107 = .ok (.iinc 5 (-1), 3) := by decide +kernel
theorem dX6_sendPledgesBack_110 : decode cX6_sendPledgesBack 110 = .ok (.goto (-90), 3) := by decide +kernel
theorem dX6_sendPledgesBack_113 : decode cX6_sendPledgesBack 113 = .ok (.iload 4, 2) := by decide +kernel
theorem dX6_sendPledgesBack_115 : decode cX6_sendPledgesBack 115 = .ok (.ireturn, 1) := by decide +kernel
theorem dX6_isJoined_0 : decode cX6_isJoined 0 = .ok (.aload_n 0, 1) := by decide +kernel
theorem dX6_isJoined_1 : decode cX6_isJoined 1 = .ok (.getfield 25, 3) := by decide +kernel
theorem dX6_isJoined_4 : decode cX6_isJoined 4 = .ok (.iload_n 1, 1) := by decide +kernel
theorem dX6_isJoined_5 : decode cX6_isJoined 5 = .ok (.ishr, 1) := by decide +kernel
theorem dX6_isJoined_6 : decode cX6_isJoined 6 = .ok (.iconst 1, 1) := by decide +kernel
theorem dX6_isJoined_7 : decode cX6_isJoined 7 = .ok (.iand, 1) := by decide +kernel
theorem dX6_isJoined_8 : decode cX6_isJoined 8 = .ok (.ifCond .eq 7, 3) := by decide +kernel
theorem dX6_isJoined_11 : decode cX6_isJoined 11 = .ok (.iconst 1, 1) := by decide +kernel
theorem dX6_isJoined_12 : decode cX6_isJoined 12 = .ok (.goto 4, 3) := by decide +kernel
theorem dX6_isJoined_15 : decode cX6_isJoined 15 = .ok (.iconst 0, 1) := by decide +kernel
theorem dX6_isJoined_16 : decode cX6_isJoined 16 = .ok (.ireturn, 1) := by decide +kernel
set_option maxRecDepth 20000 in
theorem ggX6_showAllDeeds_Jx4a65c_size_8abf5 : GoodIn wsX6_showAllDeeds wsJx4a65c_size_8abf5 := goodIn_r _ [10, 11, 50, 51, 52] (by decide +kernel) (by decide +kernel)
set_option maxRecDepth 20000 in
theorem gX6_showAllDeeds_Jx4a65c_size_8abf5 : GoodIn wsX6_showAllDeeds (wsV RX6 47 RJx4a65c yJx4a65c_size_8abf5 wsJx4a65c_size_8abf5) := goodIn_app (goodIn_of _ (by decide +kernel)) ggX6_showAllDeeds_Jx4a65c_size_8abf5
set_option maxRecDepth 20000 in
theorem ggX6_showAllDeeds_Jx4a65c_get_915e3 : GoodIn wsX6_showAllDeeds wsJx4a65c_get_915e3 := goodIn_r _ [15, 11, 16, 17, 18, 19, 20, 21, 22, 23, 24, 25, 26, 9, 27, 28, 50, 51, 52] (by decide +kernel) (by decide +kernel)
set_option maxRecDepth 20000 in
theorem gX6_showAllDeeds_Jx4a65c_get_915e3 : GoodIn wsX6_showAllDeeds (wsV RX6 122 RJx4a65c yJx4a65c_get_915e3 wsJx4a65c_get_915e3) := goodIn_app (goodIn_of _ (by decide +kernel)) ggX6_showAllDeeds_Jx4a65c_get_915e3
set_option maxRecDepth 20000 in
theorem ggX6_showAllDeeds_X0_showTo : GoodIn wsX6_showAllDeeds wsX0_showTo := goodIn_r _ [34, 35, 36, 37, 53, 54, 55, 56, 57, 58, 59, 60, 61, 62, 63, 64, 65, 66, 67, 68, 69] (by decide +kernel) (by decide +kernel)
set_option maxRecDepth 20000 in
theorem gX6_showAllDeeds_X0_showTo_u176X1 : GoodIn wsX6_showAllDeeds (va_wsU RX6 176 RX1 "Tureenlist$Deed" ⟨"Tureenlist$Gift", "showTo", "(I)V"⟩ yX0_showTo wsX0_showTo) := goodIn_app (goodIn_of _ (by decide +kernel)) ggX6_showAllDeeds_X0_showTo
set_option maxRecDepth 20000 in
theorem gX6_showAllDeeds_X0_showTo_u151X3 : GoodIn wsX6_showAllDeeds (va_wsU RX6 151 RX3 "Tureenlist$Deed" ⟨"Tureenlist$Hold", "showTo", "(I)V"⟩ yX0_showTo wsX0_showTo) := goodIn_app (goodIn_of _ (by decide +kernel)) ggX6_showAllDeeds_X0_showTo
theorem dX6_showAllDeeds_0 : decode cX6_showAllDeeds 0 = .ok (.iconst 0, 1) := by decide +kernel
theorem dX6_showAllDeeds_1 : decode cX6_showAllDeeds 1 = .ok (.istore_n 1, 1) := by decide +kernel
theorem dX6_showAllDeeds_2 : decode cX6_showAllDeeds 2 = .ok (.iload_n 1, 1) := by decide +kernel
theorem dX6_showAllDeeds_3 : decode cX6_showAllDeeds 3 = .ok (.aload_n 0, 1) := by decide +kernel
theorem dX6_showAllDeeds_4 : decode cX6_showAllDeeds 4 = .ok (.getfield 19, 3) := by decide +kernel
theorem dX6_showAllDeeds_7 : decode cX6_showAllDeeds 7 = .ok (.invokevirtual 47, 3) := by decide +kernel
theorem dX6_showAllDeeds_10 : decode cX6_showAllDeeds 10 = .ok (.if_icmp .ge 27, 3) := by decide +kernel
theorem dX6_showAllDeeds_13 : decode cX6_showAllDeeds 13 = .ok (.aload_n 0, 1) := by decide +kernel
theorem dX6_showAllDeeds_14 : decode cX6_showAllDeeds 14 = .ok (.getfield 19, 3) := by decide +kernel
theorem dX6_showAllDeeds_17 : decode cX6_showAllDeeds 17 = .ok (.iload_n 1, 1) := by decide +kernel
theorem dX6_showAllDeeds_18 : decode cX6_showAllDeeds 18 = .ok (.invokevirtual 122, 3) := by decide +kernel
theorem dX6_showAllDeeds_21 : decode cX6_showAllDeeds 21 = .ok (.checkcast 171, 3) := by decide +kernel
theorem dX6_showAllDeeds_24 : decode cX6_showAllDeeds 24 = .ok (.aload_n 0, 1) := by decide +kernel
theorem dX6_showAllDeeds_25 : decode cX6_showAllDeeds 25 = .ok (.getfield 25, 3) := by decide +kernel
theorem dX6_showAllDeeds_28 : decode cX6_showAllDeeds 28 = .ok (.invokevirtual 176, 3) := by decide +kernel
theorem dX6_showAllDeeds_31 : decode cX6_showAllDeeds 31 = .ok (.iinc 1 1, 3) := by decide +kernel
theorem dX6_showAllDeeds_34 : decode cX6_showAllDeeds 34 = .ok (.goto (-32), 3) := by decide +kernel
theorem dX6_showAllDeeds_37 : decode cX6_showAllDeeds 37 = .ok (.iconst 0, 1) := by decide +kernel
theorem dX6_showAllDeeds_38 : decode cX6_showAllDeeds 38 = .ok (.istore_n 1, 1) := by decide +kernel
theorem dX6_showAllDeeds_39 : decode cX6_showAllDeeds 39 = .ok (.iload_n 1, 1) := by decide +kernel
theorem dX6_showAllDeeds_40 : decode cX6_showAllDeeds 40 = .ok (.aload_n 0, 1) := by decide +kernel
theorem dX6_showAllDeeds_41 : decode cX6_showAllDeeds 41 = .ok (.getfield 22, 3) := by decide +kernel
theorem dX6_showAllDeeds_44 : decode cX6_showAllDeeds 44 = .ok (.invokevirtual 47, 3) := by decide +kernel
theorem dX6_showAllDeeds_47 : decode cX6_showAllDeeds 47 = .ok (.if_icmp .ge 27, 3) := by decide +kernel
theorem dX6_showAllDeeds_50 : decode cX6_showAllDeeds 50 = .ok (.aload_n 0, 1) := by decide +kernel
theorem dX6_showAllDeeds_51 : decode cX6_showAllDeeds 51 = .ok (.getfield 22, 3) := by decide +kernel
theorem dX6_showAllDeeds_54 : decode cX6_showAllDeeds 54 = .ok (.iload_n 1, 1) := by decide +kernel
theorem dX6_showAllDeeds_55 : decode cX6_showAllDeeds 55 = .ok (.invokevirtual 122, 3) := by decide +kernel
theorem dX6_showAllDeeds_58 : decode cX6_showAllDeeds 58 = .ok (.checkcast 143, 3) := by decide +kernel
theorem dX6_showAllDeeds_61 : decode cX6_showAllDeeds 61 = .ok (.aload_n 0, 1) := by decide +kernel
theorem dX6_showAllDeeds_62 : decode cX6_showAllDeeds 62 = .ok (.getfield 25, 3) := by decide +kernel
theorem dX6_showAllDeeds_65 : decode cX6_showAllDeeds 65 = .ok (.invokevirtual 151, 3) := by decide +kernel
theorem dX6_showAllDeeds_68 : decode cX6_showAllDeeds 68 = .ok (.iinc 1 1, 3) := by decide +kernel
theorem dX6_showAllDeeds_71 : decode cX6_showAllDeeds 71 = .ok (.goto (-32), 3) := by decide +kernel
theorem dX6_showAllDeeds_74 : decode cX6_showAllDeeds 74 = .ok (.return_, 1) := by decide +kernel
set_option maxRecDepth 20000 in
theorem ggX6_tooManyWith_Jx4a65c_size_8abf5 : GoodIn wsX6_tooManyWith wsJx4a65c_size_8abf5 := goodIn_r _ [16, 17, 81, 82, 83] (by decide +kernel) (by decide +kernel)
set_option maxRecDepth 20000 in
theorem gX6_tooManyWith_Jx4a65c_size_8abf5 : GoodIn wsX6_tooManyWith (wsV RX6 47 RJx4a65c yJx4a65c_size_8abf5 wsJx4a65c_size_8abf5) := goodIn_app (goodIn_of _ (by decide +kernel)) ggX6_tooManyWith_Jx4a65c_size_8abf5
set_option maxRecDepth 20000 in
theorem ggX6_tooManyWith_Jx4a65c_get_915e3 : GoodIn wsX6_tooManyWith wsJx4a65c_get_915e3 := goodIn_r _ [21, 17, 22, 23, 24, 25, 26, 27, 28, 29, 30, 31, 32, 15, 33, 34, 81, 82, 83] (by decide +kernel) (by decide +kernel)
set_option maxRecDepth 20000 in
theorem gX6_tooManyWith_Jx4a65c_get_915e3 : GoodIn wsX6_tooManyWith (wsV RX6 122 RJx4a65c yJx4a65c_get_915e3 wsJx4a65c_get_915e3) := goodIn_app (goodIn_of _ (by decide +kernel)) ggX6_tooManyWith_Jx4a65c_get_915e3
set_option maxRecDepth 20000 in
theorem ggX6_tooManyWith_X1_isKept : GoodIn wsX6_tooManyWith wsX1_isKept := goodIn_r _ [39, 40, 57, 58, 59, 60, 61, 62, 63, 64, 65] (by decide +kernel) (by decide +kernel)
set_option maxRecDepth 20000 in
theorem gX6_tooManyWith_X1_isKept : GoodIn wsX6_tooManyWith (wsV RX6 177 RX1 yX1_isKept wsX1_isKept) := goodIn_app (goodIn_of _ (by decide +kernel)) ggX6_tooManyWith_X1_isKept
set_option maxRecDepth 20000 in
theorem ggX6_tooManyWith_X0_isOpen : GoodIn wsX6_tooManyWith wsX0_isOpen := goodIn_r _ [46, 47, 57, 58, 59, 60, 61, 62, 63, 64, 65, 66, 67, 68, 69, 70, 71, 72, 73] (by decide +kernel) (by decide +kernel)
set_option maxRecDepth 20000 in
theorem gX6_tooManyWith_X0_isOpen_u418X1 : GoodIn wsX6_tooManyWith (va_wsU RX6 418 RX1 "Tureenlist$Deed" ⟨"Tureenlist$Gift", "isOpen", "()Z"⟩ yX0_isOpen wsX0_isOpen) := goodIn_app (goodIn_of _ (by decide +kernel)) ggX6_tooManyWith_X0_isOpen
theorem dX6_tooManyWith_0 : decode cX6_tooManyWith 0 = .ok (.iconst 0, 1) := by decide +kernel
theorem dX6_tooManyWith_1 : decode cX6_tooManyWith 1 = .ok (.istore_n 3, 1) := by decide +kernel
theorem dX6_tooManyWith_2 : decode cX6_tooManyWith 2 = .ok (.iconst 0, 1) := by decide +kernel
theorem dX6_tooManyWith_3 : decode cX6_tooManyWith 3 = .ok (.istore 4, 2) := by decide +kernel
theorem dX6_tooManyWith_5 : decode cX6_tooManyWith 5 = .ok (.iload 4, 2) := by decide +kernel
theorem dX6_tooManyWith_7 : decode cX6_tooManyWith 7 = .ok (.aload_n 0, 1) := by decide +kernel
theorem dX6_tooManyWith_8 : decode cX6_tooManyWith 8 = .ok (.getfield 19, 3) := by decide +kernel
theorem dX6_tooManyWith_11 : decode cX6_tooManyWith 11 = .ok (.invokevirtual 47, 3) := by decide +kernel
theorem dX6_tooManyWith_14 : decode cX6_tooManyWith 14 = .ok (.if_icmp .ge 60, 3) := by decide +kernel
theorem dX6_tooManyWith_17 : decode cX6_tooManyWith 17 = .ok (.aload_n 0, 1) := by decide +kernel
theorem dX6_tooManyWith_18 : decode cX6_tooManyWith 18 = .ok (.getfield 19, 3) := by decide +kernel
theorem dX6_tooManyWith_21 : decode cX6_tooManyWith 21 = .ok (.iload 4, 2) := by decide +kernel
theorem dX6_tooManyWith_23 : decode cX6_tooManyWith 23 = .ok (.invokevirtual 122, 3) := by decide +kernel
theorem dX6_tooManyWith_26 : decode cX6_tooManyWith 26 = .ok (.checkcast 171, 3) := by decide +kernel
theorem dX6_tooManyWith_29 : decode cX6_tooManyWith 29 = .ok (.astore 5, 2) := by decide +kernel
theorem dX6_tooManyWith_31 : decode cX6_tooManyWith 31 = .ok (.aload 5, 2) := by decide +kernel
theorem dX6_tooManyWith_33 : decode cX6_tooManyWith 33 = .ok (.invokevirtual 177, 3) := by decide +kernel
theorem dX6_tooManyWith_36 : decode cX6_tooManyWith 36 = .ok (.ifCond .eq 32, 3) := by decide +kernel
theorem dX6_tooManyWith_39 : decode cX6_tooManyWith 39 = .ok (.aload 5, 2) := by decide +kernel
theorem dX6_tooManyWith_41 : decode cX6_tooManyWith 41 = .ok (.getfield 185, 3) := by decide +kernel
theorem dX6_tooManyWith_44 : decode cX6_tooManyWith 44 = .ok (.aload_n 1, 1) := by decide +kernel
theorem dX6_tooManyWith_45 : decode cX6_tooManyWith 45 = .ok (.if_acmp .ne 23, 3) := by decide +kernel
theorem dX6_tooManyWith_48 : decode cX6_tooManyWith 48 = .ok (.aload 5, 2) := by decide +kernel
theorem dX6_tooManyWith_50 : decode cX6_tooManyWith 50 = .ok (.invokevirtual 418, 3) := by decide +kernel
theorem dX6_tooManyWith_53 : decode cX6_tooManyWith 53 = .ok (.ifCond .ne 12, 3) := by decide +kernel
theorem dX6_tooManyWith_56 : decode cX6_tooManyWith 56 = .ok (.aload 5, 2) := by decide +kernel
theorem dX6_tooManyWith_58 : decode cX6_tooManyWith 58 = .ok (.getfield 291, 3) := by decide +kernel
theorem dX6_tooManyWith_61 : decode cX6_tooManyWith 61 = .ok (.iload_n 2, 1) := by decide +kernel
theorem dX6_tooManyWith_62 : decode cX6_tooManyWith 62 = .ok (.if_icmp .ne 6, 3) := by decide +kernel
theorem dX6_tooManyWith_65 : decode cX6_tooManyWith 65 = .ok (.iinc 3 1, 3) := by decide +kernel
theorem dX6_tooManyWith_68 : decode cX6_tooManyWith 68 = .ok (.iinc 4 1, 3) := by decide +kernel
theorem dX6_tooManyWith_71 : decode cX6_tooManyWith 71 = .ok (.goto (-66), 3) := by decide +kernel
theorem dX6_tooManyWith_74 : decode cX6_tooManyWith 74 = .ok (.iconst 0, 1) := by decide +kernel
theorem dX6_tooManyWith_75 : decode cX6_tooManyWith 75 = .ok (.iload_n 3, 1) := by decide +kernel
theorem dX6_tooManyWith_76 : decode cX6_tooManyWith 76 = .ok (.aload_n 1, 1) := by decide +kernel
theorem dX6_tooManyWith_77 : decode cX6_tooManyWith 77 = .ok (.getfield 232, 3) := by decide +kernel
theorem dX6_tooManyWith_80 : decode cX6_tooManyWith 80 = .ok (.isub, 1) := by decide +kernel
theorem dX6_tooManyWith_81 : decode cX6_tooManyWith 81 = .ok (.invokestatic 408, 3) := by decide +kernel
theorem dX6_tooManyWith_84 : decode cX6_tooManyWith 84 = .ok (.ireturn, 1) := by decide +kernel
set_option maxRecDepth 20000 in
theorem ggX6_takeBackTooMany_X6_tooManyWith : GoodIn wsX6_takeBackTooMany wsX6_tooManyWith := goodIn_r _ [5, 6, 7, 8, 9, 10, 11, 12, 13, 14, 15, 16, 17, 18, 19, 20, 21, 22, 23, 24, 25, 26, 27, 28, 29, 30, 31, 32, 33, 34, 35, 36, 37, 38, 39, 40, 41, 42, 43, 44, 45, 46, 47, 48, 49, 50, 51, 52, 79, 80, 81, 82, 83, 84, 85, 86, 87, 88, 89, 90, 91, 92, 93, 94, 95, 96, 97, 98, 99, 100, 101, 102, 103, 104, 105, 106, 107, 108, 109, 110, 111, 112, 113, 114] (by decide +kernel) (by decide +kernel)
set_option maxRecDepth 20000 in
theorem gX6_takeBackTooMany_X6_tooManyWith : GoodIn wsX6_takeBackTooMany (wsV RX6 334 RX6 yX6_tooManyWith wsX6_tooManyWith) := goodIn_app (goodIn_of _ (by decide +kernel)) ggX6_takeBackTooMany_X6_tooManyWith
set_option maxRecDepth 20000 in
theorem ggX6_takeBackTooMany_X6_takeBackLast : GoodIn wsX6_takeBackTooMany wsX6_takeBackLast := goodIn_r _ [56, 6, 7, 8, 9, 17, 18, 19, 20, 21, 22, 23, 24, 25, 26, 27, 28, 29, 30, 31, 32, 33, 34, 35, 36, 37, 38, 39, 40, 41, 42, 43, 44, 45, 46, 47, 48, 49, 50, 51, 52, 57, 58, 59, 60, 61, 62, 63, 11, 64, 65, 66, 67, 4, 68, 69, 70, 71, 72, 73, 74, 75, 76, 77, 78, 79, 80, 81, 82, 83, 84, 85, 86, 87, 88, 89, 90, 91, 92, 93, 94, 95, 96, 97, 98, 99, 100, 101, 102, 103, 104, 112, 113, 114, 115, 116] (by decide +kernel) (by decide +kernel)
set_option maxRecDepth 20000 in
theorem gX6_takeBackTooMany_X6_takeBackLast : GoodIn wsX6_takeBackTooMany (wsV RX6 421 RX6 yX6_takeBackLast wsX6_takeBackLast) := goodIn_app (goodIn_of _ (by decide +kernel)) ggX6_takeBackTooMany_X6_takeBackLast
theorem dX6_takeBackTooMany_0 : decode cX6_takeBackTooMany 0 = .ok (.aload_n 0, 1) := by decide +kernel
theorem dX6_takeBackTooMany_1 : decode cX6_takeBackTooMany 1 = .ok (.aload_n 1, 1) := by decide +kernel
theorem dX6_takeBackTooMany_2 : decode cX6_takeBackTooMany 2 = .ok (.iload_n 2, 1) := by decide +kernel
theorem dX6_takeBackTooMany_3 : decode cX6_takeBackTooMany 3 = .ok (.invokevirtual 334, 3) := by decide +kernel
theorem dX6_takeBackTooMany_6 : decode cX6_takeBackTooMany 6 = .ok (.istore_n 3, 1) := by decide +kernel
theorem dX6_takeBackTooMany_7 : decode cX6_takeBackTooMany 7 = .ok (.iconst 0, 1) := by decide +kernel
theorem dX6_takeBackTooMany_8 : decode cX6_takeBackTooMany 8 = .ok (.istore 4, 2) := by decide +kernel
theorem dX6_takeBackTooMany_10 : decode cX6_takeBackTooMany 10 = .ok (.iload 4, 2) := by decide +kernel
theorem dX6_takeBackTooMany_12 : decode cX6_takeBackTooMany 12 = .ok (.iload_n 3, 1) := by decide +kernel
theorem dX6_takeBackTooMany_13 : decode cX6_takeBackTooMany 13 = .ok (.if_icmp .ge 14, 3) := by decide +kernel
theorem dX6_takeBackTooMany_16 : decode cX6_takeBackTooMany 16 = .ok (.aload_n 0, 1) := by decide +kernel
theorem dX6_takeBackTooMany_17 : decode cX6_takeBackTooMany 17 = .ok (.aload_n 1, 1) := by decide +kernel
theorem dX6_takeBackTooMany_18 : decode cX6_takeBackTooMany 18 = .ok (.invokevirtual 421, 3) := by decide +kernel
theorem dX6_takeBackTooMany_21 : decode cX6_takeBackTooMany 21 = .ok (.iinc 4 1, 3) := by decide +kernel
theorem dX6_takeBackTooMany_24 : decode cX6_takeBackTooMany 24 = .ok (.goto (-14), 3) := by decide +kernel
theorem dX6_takeBackTooMany_27 : decode cX6_takeBackTooMany 27 = .ok (.iload_n 3, 1) := by decide +kernel
theorem dX6_takeBackTooMany_28 : decode cX6_takeBackTooMany 28 = .ok (.ireturn, 1) := by decide +kernel
set_option maxRecDepth 20000 in
theorem ggX6_takeBackLast_Jx4a65c_size_8abf5 : GoodIn wsX6_takeBackLast wsJx4a65c_size_8abf5 := goodIn_r _ [9, 10, 91, 92, 93] (by decide +kernel) (by decide +kernel)
set_option maxRecDepth 20000 in
theorem gX6_takeBackLast_Jx4a65c_size_8abf5 : GoodIn wsX6_takeBackLast (wsV RX6 47 RJx4a65c yJx4a65c_size_8abf5 wsJx4a65c_size_8abf5) := goodIn_app (goodIn_of _ (by decide +kernel)) ggX6_takeBackLast_Jx4a65c_size_8abf5
set_option maxRecDepth 20000 in
theorem ggX6_takeBackLast_Jx4a65c_get_915e3 : GoodIn wsX6_takeBackLast wsJx4a65c_get_915e3 := goodIn_r _ [14, 10, 15, 16, 17, 18, 19, 20, 21, 22, 23, 24, 25, 8, 26, 27, 91, 92, 93] (by decide +kernel) (by decide +kernel)
set_option maxRecDepth 20000 in
theorem gX6_takeBackLast_Jx4a65c_get_915e3 : GoodIn wsX6_takeBackLast (wsV RX6 122 RJx4a65c yJx4a65c_get_915e3 wsJx4a65c_get_915e3) := goodIn_app (goodIn_of _ (by decide +kernel)) ggX6_takeBackLast_Jx4a65c_get_915e3
set_option maxRecDepth 20000 in
theorem ggX6_takeBackLast_X1_isKept : GoodIn wsX6_takeBackLast wsX1_isKept := goodIn_r _ [32, 33, 74, 75, 76, 77, 78, 79, 80, 81, 82] (by decide +kernel) (by decide +kernel)
set_option maxRecDepth 20000 in
theorem gX6_takeBackLast_X1_isKept : GoodIn wsX6_takeBackLast (wsV RX6 177 RX1 yX1_isKept wsX1_isKept) := goodIn_app (goodIn_of _ (by decide +kernel)) ggX6_takeBackLast_X1_isKept
set_option maxRecDepth 20000 in
theorem ggX6_takeBackLast_X0_isOpen : GoodIn wsX6_takeBackLast wsX0_isOpen := goodIn_r _ [39, 40, 74, 75, 76, 77, 78, 79, 80, 81, 82, 83, 84, 85, 86, 87, 88, 89, 90] (by decide +kernel) (by decide +kernel)
set_option maxRecDepth 20000 in
theorem gX6_takeBackLast_X0_isOpen_u418X1 : GoodIn wsX6_takeBackLast (va_wsU RX6 418 RX1 "Tureenlist$Deed" ⟨"Tureenlist$Gift", "isOpen", "()Z"⟩ yX0_isOpen wsX0_isOpen) := goodIn_app (goodIn_of _ (by decide +kernel)) ggX6_takeBackLast_X0_isOpen
set_option maxRecDepth 20000 in
theorem ggX6_takeBackLast_X1_isBehind : GoodIn wsX6_takeBackLast wsX1_isBehind := goodIn_r _ [44, 45, 46, 47, 48, 49, 74, 75, 76, 77, 78, 79, 80, 81, 82, 83, 84, 85, 86, 87, 88, 89, 90] (by decide +kernel) (by decide +kernel)
set_option maxRecDepth 20000 in
theorem gX6_takeBackLast_X1_isBehind : GoodIn wsX6_takeBackLast (wsV RX6 424 RX1 yX1_isBehind wsX1_isBehind) := goodIn_app (goodIn_of _ (by decide +kernel)) ggX6_takeBackLast_X1_isBehind
set_option maxRecDepth 20000 in
theorem ggX6_takeBackLast_X6_endGift : GoodIn wsX6_takeBackLast wsX6_endGift := goodIn_r _ [54, 55, 56, 57, 58, 59, 60, 61, 53, 62, 63, 64, 74, 75, 76, 77, 78, 79, 80, 81, 82, 83, 84, 85, 86, 87, 88, 89, 90, 94, 95, 65, 66, 67, 68, 69, 70, 71, 72, 73] (by decide +kernel) (by decide +kernel)
set_option maxRecDepth 20000 in
theorem gX6_takeBackLast_X6_endGift : GoodIn wsX6_takeBackLast (wsV RX6 194 RX6 yX6_endGift wsX6_endGift) := goodIn_app (goodIn_of _ (by decide +kernel)) ggX6_takeBackLast_X6_endGift
theorem dX6_takeBackLast_0 : decode cX6_takeBackLast 0 = .ok (.iconst (-1), 1) := by decide +kernel
theorem dX6_takeBackLast_1 : decode cX6_takeBackLast 1 = .ok (.istore_n 2, 1) := by decide +kernel
theorem dX6_takeBackLast_2 : decode cX6_takeBackLast 2 = .ok (.iconst 0, 1) := by decide +kernel
theorem dX6_takeBackLast_3 : decode cX6_takeBackLast 3 = .ok (.istore_n 3, 1) := by decide +kernel
theorem dX6_takeBackLast_4 : decode cX6_takeBackLast 4 = .ok (.iload_n 3, 1) := by decide +kernel
theorem dX6_takeBackLast_5 : decode cX6_takeBackLast 5 = .ok (.aload_n 0, 1) := by decide +kernel
theorem dX6_takeBackLast_6 : decode cX6_takeBackLast 6 = .ok (.getfield 19, 3) := by decide +kernel
theorem dX6_takeBackLast_9 : decode cX6_takeBackLast 9 = .ok (.invokevirtual 47, 3) := by decide +kernel
theorem dX6_takeBackLast_12 : decode cX6_takeBackLast 12 = .ok (.if_icmp .ge 73, 3) := by decide +kernel
theorem dX6_takeBackLast_15 : decode cX6_takeBackLast 15 = .ok (.aload_n 0, 1) := by decide +kernel
theorem dX6_takeBackLast_16 : decode cX6_takeBackLast 16 = .ok (.getfield 19, 3) := by decide +kernel
theorem dX6_takeBackLast_19 : decode cX6_takeBackLast 19 = .ok (.iload_n 3, 1) := by decide +kernel
theorem dX6_takeBackLast_20 : decode cX6_takeBackLast 20 = .ok (.invokevirtual 122, 3) := by decide +kernel
theorem dX6_takeBackLast_23 : decode cX6_takeBackLast 23 = .ok (.checkcast 171, 3) := by decide +kernel
theorem dX6_takeBackLast_26 : decode cX6_takeBackLast 26 = .ok (.astore 4, 2) := by decide +kernel
theorem dX6_takeBackLast_28 : decode cX6_takeBackLast 28 = .ok (.aload 4, 2) := by decide +kernel
theorem dX6_takeBackLast_30 : decode cX6_takeBackLast 30 = .ok (.invokevirtual 177, 3) := by decide +kernel
theorem dX6_takeBackLast_33 : decode cX6_takeBackLast 33 = .ok (.ifCond .eq 46, 3) := by decide +kernel
theorem dX6_takeBackLast_36 : decode cX6_takeBackLast 36 = .ok (.aload 4, 2) := by decide +kernel
theorem dX6_takeBackLast_38 : decode cX6_takeBackLast 38 = .ok (.getfield 185, 3) := by decide +kernel
theorem dX6_takeBackLast_41 : decode cX6_takeBackLast 41 = .ok (.aload_n 1, 1) := by decide +kernel
theorem dX6_takeBackLast_42 : decode cX6_takeBackLast 42 = .ok (.if_acmp .ne 37, 3) := by decide +kernel
theorem dX6_takeBackLast_45 : decode cX6_takeBackLast 45 = .ok (.aload 4, 2) := by decide +kernel
theorem dX6_takeBackLast_47 : decode cX6_takeBackLast 47 = .ok (.invokevirtual 418, 3) := by decide +kernel
theorem dX6_takeBackLast_50 : decode cX6_takeBackLast 50 = .ok (.ifCond .eq 29, 3) := by decide +kernel
theorem dX6_takeBackLast_53 : decode cX6_takeBackLast 53 = .ok (.iload_n 2, 1) := by decide +kernel
theorem dX6_takeBackLast_54 : decode cX6_takeBackLast 54 = .ok (.iconst (-1), 1) := by decide +kernel
theorem dX6_takeBackLast_55 : decode cX6_takeBackLast 55 = .ok (.if_icmp .eq 22, 3) := by decide +kernel
theorem dX6_takeBackLast_58 : decode cX6_takeBackLast 58 = .ok (.aload 4, 2) := by decide +kernel
theorem dX6_takeBackLast_60 : decode cX6_takeBackLast 60 = .ok (.aload_n 0, 1) := by decide +kernel
theorem dX6_takeBackLast_61 : decode cX6_takeBackLast 61 = .ok (.getfield 19, 3) := by decide +kernel
theorem dX6_takeBackLast_64 : decode cX6_takeBackLast 64 = .ok (.iload_n 2, 1) := by decide +kernel
theorem dX6_takeBackLast_65 : decode cX6_takeBackLast 65 = .ok (.invokevirtual 122, 3) := by decide +kernel
theorem dX6_takeBackLast_68 : decode cX6_takeBackLast 68 = .ok (.checkcast 171, 3) := by decide +kernel
theorem dX6_takeBackLast_71 : decode cX6_takeBackLast 71 = .ok (.invokevirtual 424, 3) := by decide +kernel
theorem dX6_takeBackLast_74 : decode cX6_takeBackLast 74 = .ok (.ifCond .eq 5, 3) := by decide +kernel
theorem dX6_takeBackLast_77 : decode cX6_takeBackLast 77 = .ok (.iload_n 3, 1) := by decide +kernel
theorem dX6_takeBackLast_78 : decode cX6_takeBackLast 78 = .ok (.istore_n 2, 1) := by decide +kernel
theorem dX6_takeBackLast_79 : decode cX6_takeBackLast 79 = .ok (.iinc 3 1, 3) := by decide +kernel
theorem dX6_takeBackLast_82 : decode cX6_takeBackLast 82 = .ok (.goto (-78), 3) := by decide +kernel
theorem dX6_takeBackLast_85 : decode cX6_takeBackLast 85 = .ok (.iload_n 2, 1) := by decide +kernel
theorem dX6_takeBackLast_86 : decode cX6_takeBackLast 86 = .ok (.iconst (-1), 1) := by decide +kernel
theorem dX6_takeBackLast_87 : decode cX6_takeBackLast 87 = .ok (.if_icmp .eq 20, 3) := by decide +kernel
theorem dX6_takeBackLast_90 : decode cX6_takeBackLast 90 = .ok (.aload_n 0, 1) := by decide +kernel
theorem dX6_takeBackLast_91 : decode cX6_takeBackLast 91 = .ok (.aload_n 0, 1) := by decide +kernel
theorem dX6_takeBackLast_92 : decode cX6_takeBackLast 92 = .ok (.getfield 19, 3) := by decide +kernel
theorem dX6_takeBackLast_95 : decode cX6_takeBackLast 95 = .ok (.iload_n 2, 1) := by decide +kernel
theorem dX6_takeBackLast_96 : decode cX6_takeBackLast 96 = .ok (.invokevirtual 122, 3) := by decide +kernel
theorem dX6_takeBackLast_99 : decode cX6_takeBackLast 99 = .ok (.checkcast 171, 3) := by decide +kernel
theorem dX6_takeBackLast_102 : decode cX6_takeBackLast 102 = .ok (.iconst 1, 1) := by decide +kernel
theorem dX6_takeBackLast_103 : decode cX6_takeBackLast 103 = .ok (.invokevirtual 194, 3) := by decide +kernel
theorem dX6_takeBackLast_106 : decode cX6_takeBackLast 106 = .ok (.pop, 1) := by decide +kernel
theorem dX6_takeBackLast_107 : decode cX6_takeBackLast 107 = .ok (.return_, 1) := by decide +kernel
set_option maxRecDepth 20000 in
theorem ggX6_keptOfSeenAt_Jx4a65c_size_8abf5 : GoodIn wsX6_keptOfSeenAt wsJx4a65c_size_8abf5 := goodIn_r _ [9, 10, 67, 68, 69] (by decide +kernel) (by decide +kernel)
set_option maxRecDepth 20000 in
theorem gX6_keptOfSeenAt_Jx4a65c_size_8abf5 : GoodIn wsX6_keptOfSeenAt (wsV RX6 47 RJx4a65c yJx4a65c_size_8abf5 wsJx4a65c_size_8abf5) := goodIn_app (goodIn_of _ (by decide +kernel)) ggX6_keptOfSeenAt_Jx4a65c_size_8abf5
set_option maxRecDepth 20000 in
theorem ggX6_keptOfSeenAt_Jx4a65c_get_915e3 : GoodIn wsX6_keptOfSeenAt wsJx4a65c_get_915e3 := goodIn_r _ [14, 10, 15, 16, 17, 18, 19, 20, 21, 22, 23, 24, 25, 8, 26, 27, 67, 68, 69] (by decide +kernel) (by decide +kernel)
set_option maxRecDepth 20000 in
theorem gX6_keptOfSeenAt_Jx4a65c_get_915e3 : GoodIn wsX6_keptOfSeenAt (wsV RX6 122 RJx4a65c yJx4a65c_get_915e3 wsJx4a65c_get_915e3) := goodIn_app (goodIn_of _ (by decide +kernel)) ggX6_keptOfSeenAt_Jx4a65c_get_915e3
set_option maxRecDepth 20000 in
theorem ggX6_keptOfSeenAt_X1_isKept : GoodIn wsX6_keptOfSeenAt wsX1_isKept := goodIn_r _ [32, 33, 50, 51, 52, 53, 54, 55, 56, 57, 58] (by decide +kernel) (by decide +kernel)
set_option maxRecDepth 20000 in
theorem gX6_keptOfSeenAt_X1_isKept : GoodIn wsX6_keptOfSeenAt (wsV RX6 177 RX1 yX1_isKept wsX1_isKept) := goodIn_app (goodIn_of _ (by decide +kernel)) ggX6_keptOfSeenAt_X1_isKept
set_option maxRecDepth 20000 in
theorem ggX6_keptOfSeenAt_X0_isSeenAt : GoodIn wsX6_keptOfSeenAt wsX0_isSeenAt := goodIn_r _ [39, 40, 50, 51, 52, 53, 54, 55, 56, 57, 58, 59, 60, 61, 62, 63, 64, 65, 66] (by decide +kernel) (by decide +kernel)
set_option maxRecDepth 20000 in
theorem gX6_keptOfSeenAt_X0_isSeenAt_u428X1 : GoodIn wsX6_keptOfSeenAt (va_wsU RX6 428 RX1 "Tureenlist$Deed" ⟨"Tureenlist$Gift", "isSeenAt", "(I)Z"⟩ yX0_isSeenAt wsX0_isSeenAt) := goodIn_app (goodIn_of _ (by decide +kernel)) ggX6_keptOfSeenAt_X0_isSeenAt
theorem dX6_keptOfSeenAt_0 : decode cX6_keptOfSeenAt 0 = .ok (.iconst 0, 1) := by decide +kernel
theorem dX6_keptOfSeenAt_1 : decode cX6_keptOfSeenAt 1 = .ok (.istore_n 3, 1) := by decide +kernel
theorem dX6_keptOfSeenAt_2 : decode cX6_keptOfSeenAt 2 = .ok (.iconst 0, 1) := by decide +kernel
theorem dX6_keptOfSeenAt_3 : decode cX6_keptOfSeenAt 3 = .ok (.istore 4, 2) := by decide +kernel
theorem dX6_keptOfSeenAt_5 : decode cX6_keptOfSeenAt 5 = .ok (.iload 4, 2) := by decide +kernel
theorem dX6_keptOfSeenAt_7 : decode cX6_keptOfSeenAt 7 = .ok (.aload_n 0, 1) := by decide +kernel
theorem dX6_keptOfSeenAt_8 : decode cX6_keptOfSeenAt 8 = .ok (.getfield 19, 3) := by decide +kernel
theorem dX6_keptOfSeenAt_11 : decode cX6_keptOfSeenAt 11 = .ok (.invokevirtual 47, 3) := by decide +kernel
theorem dX6_keptOfSeenAt_14 : decode cX6_keptOfSeenAt 14 = .ok (.if_icmp .ge 52, 3) := by decide +kernel
theorem dX6_keptOfSeenAt_17 : decode cX6_keptOfSeenAt 17 = .ok (.aload_n 0, 1) := by decide +kernel
theorem dX6_keptOfSeenAt_18 : decode cX6_keptOfSeenAt 18 = .ok (.getfield 19, 3) := by decide +kernel
theorem dX6_keptOfSeenAt_21 : decode cX6_keptOfSeenAt 21 = .ok (.iload 4, 2) := by decide +kernel
theorem dX6_keptOfSeenAt_23 : decode cX6_keptOfSeenAt 23 = .ok (.invokevirtual 122, 3) := by decide +kernel
theorem dX6_keptOfSeenAt_26 : decode cX6_keptOfSeenAt 26 = .ok (.checkcast 171, 3) := by decide +kernel
theorem dX6_keptOfSeenAt_29 : decode cX6_keptOfSeenAt 29 = .ok (.astore 5, 2) := by decide +kernel
theorem dX6_keptOfSeenAt_31 : decode cX6_keptOfSeenAt 31 = .ok (.aload 5, 2) := by decide +kernel
theorem dX6_keptOfSeenAt_33 : decode cX6_keptOfSeenAt 33 = .ok (.invokevirtual 177, 3) := by decide +kernel
theorem dX6_keptOfSeenAt_36 : decode cX6_keptOfSeenAt 36 = .ok (.ifCond .eq 24, 3) := by decide +kernel
theorem dX6_keptOfSeenAt_39 : decode cX6_keptOfSeenAt 39 = .ok (.aload 5, 2) := by decide +kernel
theorem dX6_keptOfSeenAt_41 : decode cX6_keptOfSeenAt 41 = .ok (.getfield 185, 3) := by decide +kernel
theorem dX6_keptOfSeenAt_44 : decode cX6_keptOfSeenAt 44 = .ok (.aload_n 2, 1) := by decide +kernel
theorem dX6_keptOfSeenAt_45 : decode cX6_keptOfSeenAt 45 = .ok (.if_acmp .ne 15, 3) := by decide +kernel
theorem dX6_keptOfSeenAt_48 : decode cX6_keptOfSeenAt 48 = .ok (.aload 5, 2) := by decide +kernel
theorem dX6_keptOfSeenAt_50 : decode cX6_keptOfSeenAt 50 = .ok (.iload_n 1, 1) := by decide +kernel
theorem dX6_keptOfSeenAt_51 : decode cX6_keptOfSeenAt 51 = .ok (.invokevirtual 428, 3) := by decide +kernel
theorem dX6_keptOfSeenAt_54 : decode cX6_keptOfSeenAt 54 = .ok (.ifCond .eq 6, 3) := by decide +kernel
theorem dX6_keptOfSeenAt_57 : decode cX6_keptOfSeenAt 57 = .ok (.iinc 3 1, 3) := by decide +kernel
theorem dX6_keptOfSeenAt_60 : decode cX6_keptOfSeenAt 60 = .ok (.iinc 4 1, 3) := by decide +kernel
theorem dX6_keptOfSeenAt_63 : decode cX6_keptOfSeenAt 63 = .ok (.goto (-58), 3) := by decide +kernel
theorem dX6_keptOfSeenAt_66 : decode cX6_keptOfSeenAt 66 = .ok (.iload_n 3, 1) := by decide +kernel
theorem dX6_keptOfSeenAt_67 : decode cX6_keptOfSeenAt 67 = .ok (.ireturn, 1) := by decide +kernel
set_option maxRecDepth 20000 in
theorem ggX6_leftAt_X6_keptOfSeenAt : GoodIn wsX6_leftAt wsX6_keptOfSeenAt := goodIn_r _ [17, 18, 19, 20, 21, 22, 23, 24, 25, 26, 27, 28, 29, 30, 31, 32, 33, 34, 35, 36, 37, 38, 39, 40, 41, 42, 43, 44, 45, 46, 47, 48, 49, 50, 51, 52, 53, 54, 55, 56, 57, 79, 80, 81, 82, 83, 84, 85, 86, 87, 88, 89, 90, 91, 92, 93, 94, 95, 96, 97, 98, 99, 100, 101, 102, 103, 104, 105, 106, 107] (by decide +kernel) (by decide +kernel)
set_option maxRecDepth 20000 in
theorem gX6_leftAt_X6_keptOfSeenAt : GoodIn wsX6_leftAt (wsV RX6 431 RX6 yX6_keptOfSeenAt wsX6_keptOfSeenAt) := goodIn_app (goodIn_of _ (by decide +kernel)) ggX6_leftAt_X6_keptOfSeenAt
set_option maxRecDepth 20000 in
theorem ggX6_leftAt_Jx4a65c_size_8abf5 : GoodIn wsX6_leftAt wsJx4a65c_size_8abf5 := goodIn_r _ [26, 27, 105, 106, 107] (by decide +kernel) (by decide +kernel)
set_option maxRecDepth 20000 in
theorem gX6_leftAt_Jx4a65c_size_8abf5 : GoodIn wsX6_leftAt (wsV RX6 47 RJx4a65c yJx4a65c_size_8abf5 wsJx4a65c_size_8abf5) := goodIn_app (goodIn_of _ (by decide +kernel)) ggX6_leftAt_Jx4a65c_size_8abf5
set_option maxRecDepth 20000 in
theorem ggX6_leftAt_Jx4a65c_get_915e3 : GoodIn wsX6_leftAt wsJx4a65c_get_915e3 := goodIn_r _ [31, 27, 32, 33, 34, 35, 36, 37, 38, 39, 40, 41, 42, 25, 43, 44, 105, 106, 107] (by decide +kernel) (by decide +kernel)
set_option maxRecDepth 20000 in
theorem gX6_leftAt_Jx4a65c_get_915e3 : GoodIn wsX6_leftAt (wsV RX6 122 RJx4a65c yJx4a65c_get_915e3 wsJx4a65c_get_915e3) := goodIn_app (goodIn_of _ (by decide +kernel)) ggX6_leftAt_Jx4a65c_get_915e3
set_option maxRecDepth 20000 in
theorem ggX6_leftAt_X3_standsAt : GoodIn wsX6_leftAt wsX3_standsAt := goodIn_r _ [62, 63, 64, 7, 65, 66, 67, 68, 97, 98, 99, 100, 101, 102, 103, 104, 88, 89, 90, 91, 92, 93, 94, 95, 96, 72, 73, 74, 75, 76, 77, 78] (by decide +kernel) (by decide +kernel)
set_option maxRecDepth 20000 in
theorem gX6_leftAt_X3_standsAt : GoodIn wsX6_leftAt (wsV RX6 435 RX3 yX3_standsAt wsX3_standsAt) := goodIn_app (goodIn_of _ (by decide +kernel)) ggX6_leftAt_X3_standsAt
set_option maxRecDepth 20000 in
theorem ggX6_leftAt_X0_isSeenAt : GoodIn wsX6_leftAt wsX0_isSeenAt := goodIn_r _ [56, 57, 88, 89, 90, 91, 92, 93, 94, 95, 96, 97, 98, 99, 100, 101, 102, 103, 104] (by decide +kernel) (by decide +kernel)
set_option maxRecDepth 20000 in
theorem gX6_leftAt_X0_isSeenAt_u438X3 : GoodIn wsX6_leftAt (va_wsU RX6 438 RX3 "Tureenlist$Deed" ⟨"Tureenlist$Hold", "isSeenAt", "(I)Z"⟩ yX0_isSeenAt wsX0_isSeenAt) := goodIn_app (goodIn_of _ (by decide +kernel)) ggX6_leftAt_X0_isSeenAt
theorem dX6_leftAt_0 : decode cX6_leftAt 0 = .ok (.aload_n 2, 1) := by decide +kernel
theorem dX6_leftAt_1 : decode cX6_leftAt 1 = .ok (.getfield 78, 3) := by decide +kernel
theorem dX6_leftAt_4 : decode cX6_leftAt 4 = .ok (.ifCond .ne 10, 3) := by decide +kernel
theorem dX6_leftAt_7 : decode cX6_leftAt 7 = .ok (.aload_n 2, 1) := by decide +kernel
theorem dX6_leftAt_8 : decode cX6_leftAt 8 = .ok (.getfield 98, 3) := by decide +kernel
theorem dX6_leftAt_11 : decode cX6_leftAt 11 = .ok (.ifCond .eq 5, 3) := by decide +kernel
theorem dX6_leftAt_14 : decode cX6_leftAt 14 = .ok (.iconst 0, 1) := by decide +kernel
theorem dX6_leftAt_15 : decode cX6_leftAt 15 = .ok (.ireturn, 1) := by decide +kernel
theorem dX6_leftAt_16 : decode cX6_leftAt 16 = .ok (.aload_n 2, 1) := by decide +kernel
theorem dX6_leftAt_17 : decode cX6_leftAt 17 = .ok (.getfield 232, 3) := by decide +kernel
theorem dX6_leftAt_20 : decode cX6_leftAt 20 = .ok (.aload_n 0, 1) := by decide +kernel
theorem dX6_leftAt_21 : decode cX6_leftAt 21 = .ok (.iload_n 1, 1) := by decide +kernel
theorem dX6_leftAt_22 : decode cX6_leftAt 22 = .ok (.aload_n 2, 1) := by decide +kernel
theorem dX6_leftAt_23 : decode cX6_leftAt 23 = .ok (.invokevirtual 431, 3) := by decide +kernel
theorem dX6_leftAt_26 : decode cX6_leftAt 26 = .ok (.isub, 1) := by decide +kernel
theorem dX6_leftAt_27 : decode cX6_leftAt 27 = .ok (.istore_n 3, 1) := by decide +kernel
theorem dX6_leftAt_28 : decode cX6_leftAt 28 = .ok (.iconst 0, 1) := by decide +kernel
theorem dX6_leftAt_29 : decode cX6_leftAt 29 = .ok (.istore 4, 2) := by decide +kernel
theorem dX6_leftAt_31 : decode cX6_leftAt 31 = .ok (.iload 4, 2) := by decide +kernel
theorem dX6_leftAt_33 : decode cX6_leftAt 33 = .ok (.aload_n 0, 1) := by decide +kernel
theorem dX6_leftAt_34 : decode cX6_leftAt 34 = .ok (.getfield 22, 3) := by decide +kernel
theorem dX6_leftAt_37 : decode cX6_leftAt 37 = .ok (.invokevirtual 47, 3) := by decide +kernel
theorem dX6_leftAt_40 : decode cX6_leftAt 40 = .ok (.if_icmp .ge 56, 3) := by decide +kernel
theorem dX6_leftAt_43 : decode cX6_leftAt 43 = .ok (.aload_n 0, 1) := by decide +kernel
theorem dX6_leftAt_44 : decode cX6_leftAt 44 = .ok (.getfield 22, 3) := by decide +kernel
theorem dX6_leftAt_47 : decode cX6_leftAt 47 = .ok (.iload 4, 2) := by decide +kernel
theorem dX6_leftAt_49 : decode cX6_leftAt 49 = .ok (.invokevirtual 122, 3) := by decide +kernel
theorem dX6_leftAt_52 : decode cX6_leftAt 52 = .ok (.checkcast 143, 3) := by decide +kernel
theorem dX6_leftAt_55 : decode cX6_leftAt 55 = .ok (.astore 5, 2) := by decide +kernel
theorem dX6_leftAt_57 : decode cX6_leftAt 57 = .ok (.aload 5, 2) := by decide +kernel
theorem dX6_leftAt_59 : decode cX6_leftAt 59 = .ok (.getfield 434, 3) := by decide +kernel
theorem dX6_leftAt_62 : decode cX6_leftAt 62 = .ok (.aload_n 2, 1) := by decide +kernel
end
section
theorem dX6_leftAt_63 : decode cX6_leftAt 63 = .ok (.if_acmp .ne 27, 3) := by decide +kernel
theorem dX6_leftAt_66 : decode cX6_leftAt 66 = .ok (.aload 5, 2) := by decide +kernel
theorem dX6_leftAt_68 : decode cX6_leftAt 68 = .ok (.aload_n 0, 1) := by decide +kernel
theorem dX6_leftAt_69 : decode cX6_leftAt 69 = .ok (.getfield 145, 3) := by decide +kernel
theorem dX6_leftAt_72 : decode cX6_leftAt 72 = .ok (.invokevirtual 435, 3) := by decide +kernel
theorem dX6_leftAt_75 : decode cX6_leftAt 75 = .ok (.ifCond .eq 15, 3) := by decide +kernel
theorem dX6_leftAt_78 : decode cX6_leftAt 78 = .ok (.aload 5, 2) := by decide +kernel
theorem dX6_leftAt_80 : decode cX6_leftAt 80 = .ok (.iload_n 1, 1) := by decide +kernel
theorem dX6_leftAt_81 : decode cX6_leftAt 81 = .ok (.invokevirtual 438, 3) := by decide +kernel
theorem dX6_leftAt_84 : decode cX6_leftAt 84 = .ok (.ifCond .eq 6, 3) := by decide +kernel
theorem dX6_leftAt_87 : decode cX6_leftAt 87 = .ok (.iinc 3 (-1), 3) := by decide +kernel
theorem dX6_leftAt_90 : decode cX6_leftAt 90 = .ok (.iinc 4 1, 3) := by decide +kernel
theorem dX6_leftAt_93 : decode cX6_leftAt 93 = .ok (.goto (-62), 3) := by decide +kernel
theorem dX6_leftAt_96 : decode cX6_leftAt 96 = .ok (.iconst 0, 1) := by decide +kernel
theorem dX6_leftAt_97 : decode cX6_leftAt 97 = .ok (.iload_n 3, 1) := by decide +kernel
theorem dX6_leftAt_98 : decode cX6_leftAt 98 = .ok (.invokestatic 408, 3) := by decide +kernel
theorem dX6_leftAt_101 : decode cX6_leftAt 101 = .ok (.ireturn, 1) := by decide +kernel
set_option maxRecDepth 20000 in
theorem ggX6_allLeftAt_Jx4a65c_size_8abf5 : GoodIn wsX6_allLeftAt wsJx4a65c_size_8abf5 := goodIn_r _ [7, 8, 87, 88, 89] (by decide +kernel) (by decide +kernel)
set_option maxRecDepth 20000 in
theorem gX6_allLeftAt_Jx4a65c_size_8abf5 : GoodIn wsX6_allLeftAt (wsV RX6 47 RJx4a65c yJx4a65c_size_8abf5 wsJx4a65c_size_8abf5) := goodIn_app (goodIn_of _ (by decide +kernel)) ggX6_allLeftAt_Jx4a65c_size_8abf5
set_option maxRecDepth 20000 in
theorem ggX6_allLeftAt_Jx4a65c_get_915e3 : GoodIn wsX6_allLeftAt wsJx4a65c_get_915e3 := goodIn_r _ [12, 8, 13, 14, 15, 16, 17, 18, 19, 20, 21, 22, 23, 6, 24, 25, 87, 88, 89] (by decide +kernel) (by decide +kernel)
set_option maxRecDepth 20000 in
theorem gX6_allLeftAt_Jx4a65c_get_915e3 : GoodIn wsX6_allLeftAt (wsV RX6 122 RJx4a65c yJx4a65c_get_915e3 wsJx4a65c_get_915e3) := goodIn_app (goodIn_of _ (by decide +kernel)) ggX6_allLeftAt_Jx4a65c_get_915e3
set_option maxRecDepth 20000 in
theorem ggX6_allLeftAt_X6_leftAt : GoodIn wsX6_allLeftAt wsX6_leftAt := goodIn_r _ [30, 31, 32, 33, 34, 35, 36, 37, 38, 39, 40, 41, 42, 43, 44, 45, 29, 46, 47, 48, 49, 50, 3, 4, 5, 6, 7, 8, 9, 10, 11, 12, 13, 14, 15, 16, 17, 18, 19, 20, 21, 22, 23, 24, 25, 51, 52, 53, 54, 55, 56, 57, 58, 59, 60, 61, 62, 63, 64, 65, 66, 67, 68, 69, 70, 71, 72, 73, 74, 75, 76, 77, 90, 91, 92, 93, 94, 95, 96, 78, 79, 80, 81, 82, 83, 84, 85, 86, 97, 98, 99, 100, 101, 102, 103, 104, 105, 106, 107, 108, 109, 110, 111, 112, 113, 87, 88, 89] (by decide +kernel) (by decide +kernel)
set_option maxRecDepth 20000 in
theorem gX6_allLeftAt_X6_leftAt : GoodIn wsX6_allLeftAt (wsV RX6 137 RX6 yX6_leftAt wsX6_leftAt) := goodIn_app (goodIn_of _ (by decide +kernel)) ggX6_allLeftAt_X6_leftAt
theorem dX6_allLeftAt_0 : decode cX6_allLeftAt 0 = .ok (.iconst 0, 1) := by decide +kernel
theorem dX6_allLeftAt_1 : decode cX6_allLeftAt 1 = .ok (.istore_n 2, 1) := by decide +kernel
theorem dX6_allLeftAt_2 : decode cX6_allLeftAt 2 = .ok (.iconst 0, 1) := by decide +kernel
theorem dX6_allLeftAt_3 : decode cX6_allLeftAt 3 = .ok (.istore_n 3, 1) := by decide +kernel
theorem dX6_allLeftAt_4 : decode cX6_allLeftAt 4 = .ok (.iload_n 3, 1) := by decide +kernel
theorem dX6_allLeftAt_5 : decode cX6_allLeftAt 5 = .ok (.aload_n 0, 1) := by decide +kernel
theorem dX6_allLeftAt_6 : decode cX6_allLeftAt 6 = .ok (.getfield 12, 3) := by decide +kernel
theorem dX6_allLeftAt_9 : decode cX6_allLeftAt 9 = .ok (.invokevirtual 47, 3) := by decide +kernel
theorem dX6_allLeftAt_12 : decode cX6_allLeftAt 12 = .ok (.if_icmp .ge 28, 3) := by decide +kernel
theorem dX6_allLeftAt_15 : decode cX6_allLeftAt 15 = .ok (.iload_n 2, 1) := by decide +kernel
theorem dX6_allLeftAt_16 : decode cX6_allLeftAt 16 = .ok (.aload_n 0, 1) := by decide +kernel
theorem dX6_allLeftAt_17 : decode cX6_allLeftAt 17 = .ok (.iload_n 1, 1) := by decide +kernel
theorem dX6_allLeftAt_18 : decode cX6_allLeftAt 18 = .ok (.aload_n 0, 1) := by decide +kernel
theorem dX6_allLeftAt_19 : decode cX6_allLeftAt 19 = .ok (.getfield 12, 3) := by decide +kernel
theorem dX6_allLeftAt_22 : decode cX6_allLeftAt 22 = .ok (.iload_n 3, 1) := by decide +kernel
theorem dX6_allLeftAt_23 : decode cX6_allLeftAt 23 = .ok (.invokevirtual 122, 3) := by decide +kernel
theorem dX6_allLeftAt_26 : decode cX6_allLeftAt 26 = .ok (.checkcast 56, 3) := by decide +kernel
theorem dX6_allLeftAt_29 : decode cX6_allLeftAt 29 = .ok (.invokevirtual 137, 3) := by decide +kernel
theorem dX6_allLeftAt_32 : decode cX6_allLeftAt 32 = .ok (.iadd, 1) := by decide +kernel
theorem dX6_allLeftAt_33 : decode cX6_allLeftAt 33 = .ok (.istore_n 2, 1) := by decide +kernel
theorem dX6_allLeftAt_34 : decode cX6_allLeftAt 34 = .ok (.iinc 3 1, 3) := by decide +kernel
theorem dX6_allLeftAt_37 : decode cX6_allLeftAt 37 = .ok (.goto (-33), 3) := by decide +kernel
theorem dX6_allLeftAt_40 : decode cX6_allLeftAt 40 = .ok (.iload_n 2, 1) := by decide +kernel
theorem dX6_allLeftAt_41 : decode cX6_allLeftAt 41 = .ok (.ireturn, 1) := by decide +kernel
set_option maxRecDepth 20000 in
theorem ggX6_takePiece_X6_servingHold : GoodIn wsX6_takePiece wsX6_servingHold := goodIn_r _ [10, 11, 3, 4, 12, 13, 14, 15, 16, 17, 18, 19, 9, 20, 21, 22, 23, 24, 25, 26, 27, 28, 29, 30, 31, 32, 33, 34, 35, 36, 37, 38, 39, 40, 41, 42, 43, 44, 45, 46, 47, 48, 49, 50, 51, 52, 53, 54, 55, 56, 57, 58, 59, 60, 61, 62, 63, 64, 65, 66, 67, 68, 69, 70, 71, 72, 73, 74, 102, 103, 104, 105, 106, 107, 108, 85, 86, 87, 88, 89, 90, 91, 92, 93, 109, 110, 111, 112, 113, 114, 115, 116, 117, 94, 95, 96, 97, 98, 99, 100, 101, 118, 119, 120] (by decide +kernel) (by decide +kernel)
set_option maxRecDepth 20000 in
theorem gX6_takePiece_X6_servingHold : GoodIn wsX6_takePiece (wsV RX6 439 RX6 yX6_servingHold wsX6_servingHold) := goodIn_app (goodIn_of _ (by decide +kernel)) ggX6_takePiece_X6_servingHold
set_option maxRecDepth 20000 in
theorem ggX6_takePiece_Jx4a65c_get_915e3 : GoodIn wsX6_takePiece wsJx4a65c_get_915e3 := goodIn_r _ [34, 30, 35, 36, 37, 38, 39, 40, 41, 42, 43, 44, 45, 28, 46, 47, 118, 119, 120] (by decide +kernel) (by decide +kernel)
set_option maxRecDepth 20000 in
theorem gX6_takePiece_Jx4a65c_get_915e3 : GoodIn wsX6_takePiece (wsV RX6 122 RJx4a65c yJx4a65c_get_915e3 wsJx4a65c_get_915e3) := goodIn_app (goodIn_of _ (by decide +kernel)) ggX6_takePiece_Jx4a65c_get_915e3
set_option maxRecDepth 20000 in
theorem ggX6_takePiece_X6_leftAt : GoodIn wsX6_takePiece wsX6_leftAt := goodIn_r _ [78, 79, 80, 11, 3, 4, 14, 15, 16, 81, 82, 83, 84, 17, 18, 19, 9, 20, 21, 22, 23, 24, 25, 26, 27, 28, 29, 30, 31, 32, 33, 34, 35, 36, 37, 38, 39, 40, 41, 42, 43, 44, 45, 46, 47, 48, 49, 50, 51, 52, 53, 54, 55, 56, 57, 58, 59, 60, 61, 62, 63, 64, 65, 66, 67, 68, 69, 70, 71, 72, 73, 74, 102, 103, 104, 105, 106, 107, 108, 85, 86, 87, 88, 89, 90, 91, 92, 93, 109, 110, 111, 112, 113, 114, 115, 116, 117, 94, 95, 96, 97, 98, 99, 100, 101, 118, 119, 120] (by decide +kernel) (by decide +kernel)
set_option maxRecDepth 20000 in
theorem gX6_takePiece_X6_leftAt : GoodIn wsX6_takePiece (wsV RX6 137 RX6 yX6_leftAt wsX6_leftAt) := goodIn_app (goodIn_of _ (by decide +kernel)) ggX6_takePiece_X6_leftAt
theorem dX6_takePiece_0 : decode cX6_takePiece 0 = .ok (.aload_n 0, 1) := by decide +kernel
theorem dX6_takePiece_1 : decode cX6_takePiece 1 = .ok (.iload_n 1, 1) := by decide +kernel
theorem dX6_takePiece_2 : decode cX6_takePiece 2 = .ok (.aload_n 2, 1) := by decide +kernel
theorem dX6_takePiece_3 : decode cX6_takePiece 3 = .ok (.aload_n 3, 1) := by decide +kernel
theorem dX6_takePiece_4 : decode cX6_takePiece 4 = .ok (.invokevirtual 439, 3) := by decide +kernel
theorem dX6_takePiece_7 : decode cX6_takePiece 7 = .ok (.istore 4, 2) := by decide +kernel
theorem dX6_takePiece_9 : decode cX6_takePiece 9 = .ok (.iload 4, 2) := by decide +kernel
theorem dX6_takePiece_11 : decode cX6_takePiece 11 = .ok (.iconst (-1), 1) := by decide +kernel
theorem dX6_takePiece_12 : decode cX6_takePiece 12 = .ok (.if_icmp .eq 22, 3) := by decide +kernel
theorem dX6_takePiece_15 : decode cX6_takePiece 15 = .ok (.aload_n 0, 1) := by decide +kernel
theorem dX6_takePiece_16 : decode cX6_takePiece 16 = .ok (.getfield 22, 3) := by decide +kernel
theorem dX6_takePiece_19 : decode cX6_takePiece 19 = .ok (.iload 4, 2) := by decide +kernel
theorem dX6_takePiece_21 : decode cX6_takePiece 21 = .ok (.invokevirtual 122, 3) := by decide +kernel
theorem dX6_takePiece_24 : decode cX6_takePiece 24 = .ok (.checkcast 143, 3) := by decide +kernel
theorem dX6_takePiece_27 : decode cX6_takePiece 27 = .ok (.iconst 1, 1) := by decide +kernel
theorem dX6_takePiece_28 : decode cX6_takePiece 28 = .ok (.putfield 443, 3) := by decide +kernel
theorem dX6_takePiece_31 : decode cX6_takePiece 31 = .ok (.goto 23, 3) := by decide +kernel
theorem dX6_takePiece_34 : decode cX6_takePiece 34 = .ok (.aload_n 0, 1) := by decide +kernel
theorem dX6_takePiece_35 : decode cX6_takePiece 35 = .ok (.iload_n 1, 1) := by decide +kernel
theorem dX6_takePiece_36 : decode cX6_takePiece 36 = .ok (.aload_n 3, 1) := by decide +kernel
theorem dX6_takePiece_37 : decode cX6_takePiece 37 = .ok (.invokevirtual 137, 3) := by decide +kernel
theorem dX6_takePiece_40 : decode cX6_takePiece 40 = .ok (.ifCond .ne 14, 3) := by decide +kernel
theorem dX6_takePiece_43 : decode cX6_takePiece 43 = .ok (.new 51, 3) := by decide +kernel
theorem dX6_takePiece_46 : decode cX6_takePiece 46 = .ok (.dup, 1) := by decide +kernel
theorem dX6_takePiece_47 : decode cX6_takePiece 47 = .ok (.ldc_w 446, 3) := by decide +kernel
theorem dX6_takePiece_50 : decode cX6_takePiece 50 = .ok (.invokespecial 55, 3) := by decide +kernel
theorem dX6_takePiece_53 : decode cX6_takePiece 53 = .ok (.athrow, 1) := by decide +kernel
theorem dX6_takePiece_54 : decode cX6_takePiece 54 = .ok (.return_, 1) := by decide +kernel
set_option maxRecDepth 20000 in
theorem ggX6_servingHold_X6_keptOfSeenAt : GoodIn wsX6_servingHold wsX6_keptOfSeenAt := goodIn_r _ [13, 14, 15, 16, 17, 18, 19, 20, 21, 22, 23, 24, 25, 26, 27, 28, 29, 30, 31, 32, 33, 34, 35, 36, 37, 38, 39, 40, 41, 42, 43, 44, 45, 46, 47, 48, 49, 50, 51, 52, 53, 75, 76, 77, 78, 79, 80, 81, 82, 83, 84, 85, 86, 87, 88, 89, 90, 91, 92, 93, 94, 95, 96, 97, 98, 99, 100, 101, 102, 103] (by decide +kernel) (by decide +kernel)
set_option maxRecDepth 20000 in
theorem gX6_servingHold_X6_keptOfSeenAt : GoodIn wsX6_servingHold (wsV RX6 431 RX6 yX6_keptOfSeenAt wsX6_keptOfSeenAt) := goodIn_app (goodIn_of _ (by decide +kernel)) ggX6_servingHold_X6_keptOfSeenAt
set_option maxRecDepth 20000 in
theorem ggX6_servingHold_Jx4a65c_size_8abf5 : GoodIn wsX6_servingHold wsJx4a65c_size_8abf5 := goodIn_r _ [22, 23, 101, 102, 103] (by decide +kernel) (by decide +kernel)
set_option maxRecDepth 20000 in
theorem gX6_servingHold_Jx4a65c_size_8abf5 : GoodIn wsX6_servingHold (wsV RX6 47 RJx4a65c yJx4a65c_size_8abf5 wsJx4a65c_size_8abf5) := goodIn_app (goodIn_of _ (by decide +kernel)) ggX6_servingHold_Jx4a65c_size_8abf5
set_option maxRecDepth 20000 in
theorem ggX6_servingHold_Jx4a65c_get_915e3 : GoodIn wsX6_servingHold wsJx4a65c_get_915e3 := goodIn_r _ [27, 23, 28, 29, 30, 31, 32, 33, 34, 35, 36, 37, 38, 21, 39, 40, 101, 102, 103] (by decide +kernel) (by decide +kernel)
set_option maxRecDepth 20000 in
theorem gX6_servingHold_Jx4a65c_get_915e3 : GoodIn wsX6_servingHold (wsV RX6 122 RJx4a65c yJx4a65c_get_915e3 wsJx4a65c_get_915e3) := goodIn_app (goodIn_of _ (by decide +kernel)) ggX6_servingHold_Jx4a65c_get_915e3
set_option maxRecDepth 20000 in
theorem ggX6_servingHold_X3_standsAt : GoodIn wsX6_servingHold wsX3_standsAt := goodIn_r _ [58, 59, 60, 7, 61, 62, 63, 64, 93, 94, 95, 96, 97, 98, 99, 100, 84, 85, 86, 87, 88, 89, 90, 91, 92, 68, 69, 70, 71, 72, 73, 74] (by decide +kernel) (by decide +kernel)
set_option maxRecDepth 20000 in
theorem gX6_servingHold_X3_standsAt : GoodIn wsX6_servingHold (wsV RX6 435 RX3 yX3_standsAt wsX3_standsAt) := goodIn_app (goodIn_of _ (by decide +kernel)) ggX6_servingHold_X3_standsAt
set_option maxRecDepth 20000 in
theorem ggX6_servingHold_X0_isSeenAt : GoodIn wsX6_servingHold wsX0_isSeenAt := goodIn_r _ [52, 53, 84, 85, 86, 87, 88, 89, 90, 91, 92, 93, 94, 95, 96, 97, 98, 99, 100] (by decide +kernel) (by decide +kernel)
set_option maxRecDepth 20000 in
theorem gX6_servingHold_X0_isSeenAt_u438X3 : GoodIn wsX6_servingHold (va_wsU RX6 438 RX3 "Tureenlist$Deed" ⟨"Tureenlist$Hold", "isSeenAt", "(I)Z"⟩ yX0_isSeenAt wsX0_isSeenAt) := goodIn_app (goodIn_of _ (by decide +kernel)) ggX6_servingHold_X0_isSeenAt
theorem dX6_servingHold_0 : decode cX6_servingHold 0 = .ok (.aload_n 0, 1) := by decide +kernel
theorem dX6_servingHold_1 : decode cX6_servingHold 1 = .ok (.iload_n 1, 1) := by decide +kernel
theorem dX6_servingHold_2 : decode cX6_servingHold 2 = .ok (.aload_n 3, 1) := by decide +kernel
theorem dX6_servingHold_3 : decode cX6_servingHold 3 = .ok (.invokevirtual 431, 3) := by decide +kernel
theorem dX6_servingHold_6 : decode cX6_servingHold 6 = .ok (.aload_n 3, 1) := by decide +kernel
theorem dX6_servingHold_7 : decode cX6_servingHold 7 = .ok (.getfield 232, 3) := by decide +kernel
theorem dX6_servingHold_10 : decode cX6_servingHold 10 = .ok (.if_icmp .lt 5, 3) := by decide +kernel
theorem dX6_servingHold_13 : decode cX6_servingHold 13 = .ok (.iconst (-1), 1) := by decide +kernel
theorem dX6_servingHold_14 : decode cX6_servingHold 14 = .ok (.ireturn, 1) := by decide +kernel
theorem dX6_servingHold_15 : decode cX6_servingHold 15 = .ok (.iconst 0, 1) := by decide +kernel
theorem dX6_servingHold_16 : decode cX6_servingHold 16 = .ok (.istore 4, 2) := by decide +kernel
theorem dX6_servingHold_18 : decode cX6_servingHold 18 = .ok (.iload 4, 2) := by decide +kernel
theorem dX6_servingHold_20 : decode cX6_servingHold 20 = .ok (.aload_n 0, 1) := by decide +kernel
theorem dX6_servingHold_21 : decode cX6_servingHold 21 = .ok (.getfield 22, 3) := by decide +kernel
theorem dX6_servingHold_24 : decode cX6_servingHold 24 = .ok (.invokevirtual 47, 3) := by decide +kernel
theorem dX6_servingHold_27 : decode cX6_servingHold 27 = .ok (.if_icmp .ge 65, 3) := by decide +kernel
theorem dX6_servingHold_30 : decode cX6_servingHold 30 = .ok (.aload_n 0, 1) := by decide +kernel
theorem dX6_servingHold_31 : decode cX6_servingHold 31 = .ok (.getfield 22, 3) := by decide +kernel
theorem dX6_servingHold_34 : decode cX6_servingHold 34 = .ok (.iload 4, 2) := by decide +kernel
theorem dX6_servingHold_36 : decode cX6_servingHold 36 = .ok (.invokevirtual 122, 3) := by decide +kernel
theorem dX6_servingHold_39 : decode cX6_servingHold 39 = .ok (.checkcast 143, 3) := by decide +kernel
theorem dX6_servingHold_42 : decode cX6_servingHold 42 = .ok (.astore 5, 2) := by decide +kernel
theorem dX6_servingHold_44 : decode cX6_servingHold 44 = .ok (.aload 5, 2) := by decide +kernel
theorem dX6_servingHold_46 : decode cX6_servingHold 46 = .ok (.getfield 448, 3) := by decide +kernel
theorem dX6_servingHold_49 : decode cX6_servingHold 49 = .ok (.aload_n 2, 1) := by decide +kernel
theorem dX6_servingHold_50 : decode cX6_servingHold 50 = .ok (.if_acmp .ne 36, 3) := by decide +kernel
theorem dX6_servingHold_53 : decode cX6_servingHold 53 = .ok (.aload 5, 2) := by decide +kernel
theorem dX6_servingHold_55 : decode cX6_servingHold 55 = .ok (.getfield 434, 3) := by decide +kernel
theorem dX6_servingHold_58 : decode cX6_servingHold 58 = .ok (.aload_n 3, 1) := by decide +kernel
theorem dX6_servingHold_59 : decode cX6_servingHold 59 = .ok (.if_acmp .ne 27, 3) := by decide +kernel
theorem dX6_servingHold_62 : decode cX6_servingHold 62 = .ok (.aload 5, 2) := by decide +kernel
theorem dX6_servingHold_64 : decode cX6_servingHold 64 = .ok (.aload_n 0, 1) := by decide +kernel
theorem dX6_servingHold_65 : decode cX6_servingHold 65 = .ok (.getfield 145, 3) := by decide +kernel
theorem dX6_servingHold_68 : decode cX6_servingHold 68 = .ok (.invokevirtual 435, 3) := by decide +kernel
theorem dX6_servingHold_71 : decode cX6_servingHold 71 = .ok (.ifCond .eq 15, 3) := by decide +kernel
theorem dX6_servingHold_74 : decode cX6_servingHold 74 = .ok (.aload 5, 2) := by decide +kernel
theorem dX6_servingHold_76 : decode cX6_servingHold 76 = .ok (.iload_n 1, 1) := by decide +kernel
theorem dX6_servingHold_77 : decode cX6_servingHold 77 = .ok (.invokevirtual 438, 3) := by decide +kernel
theorem dX6_servingHold_80 : decode cX6_servingHold 80 = .ok (.ifCond .eq 6, 3) := by decide +kernel
theorem dX6_servingHold_83 : decode cX6_servingHold 83 = .ok (.iload 4, 2) := by decide +kernel
theorem dX6_servingHold_85 : decode cX6_servingHold 85 = .ok (.ireturn, 1) := by decide +kernel
theorem dX6_servingHold_86 : decode cX6_servingHold 86 = .ok (.iinc 4 1, 3) := by decide +kernel
theorem dX6_servingHold_89 : decode cX6_servingHold 89 = .ok (.goto (-71), 3) := by decide +kernel
theorem dX6_servingHold_92 : decode cX6_servingHold 92 = .ok (.iconst (-1), 1) := by decide +kernel
theorem dX6_servingHold_93 : decode cX6_servingHold 93 = .ok (.ireturn, 1) := by decide +kernel
set_option maxRecDepth 20000 in
theorem ggX6_takeStock_Jx4a65c_size_8abf5 : GoodIn wsX6_takeStock wsJx4a65c_size_8abf5 := goodIn_r _ [8, 9, 95, 96, 97] (by decide +kernel) (by decide +kernel)
set_option maxRecDepth 20000 in
theorem gX6_takeStock_Jx4a65c_size_8abf5 : GoodIn wsX6_takeStock (wsV RX6 47 RJx4a65c yJx4a65c_size_8abf5 wsJx4a65c_size_8abf5) := goodIn_app (goodIn_of _ (by decide +kernel)) ggX6_takeStock_Jx4a65c_size_8abf5
set_option maxRecDepth 20000 in
theorem ggX6_takeStock_Jx4a65c_get_915e3 : GoodIn wsX6_takeStock wsJx4a65c_get_915e3 := goodIn_r _ [13, 9, 14, 15, 16, 17, 18, 19, 20, 21, 22, 23, 24, 7, 25, 26, 95, 96, 97] (by decide +kernel) (by decide +kernel)
set_option maxRecDepth 20000 in
theorem gX6_takeStock_Jx4a65c_get_915e3 : GoodIn wsX6_takeStock (wsV RX6 122 RJx4a65c yJx4a65c_get_915e3 wsJx4a65c_get_915e3) := goodIn_app (goodIn_of _ (by decide +kernel)) ggX6_takeStock_Jx4a65c_get_915e3
set_option maxRecDepth 20000 in
theorem ggX6_takeStock_X6_leftAt : GoodIn wsX6_takeStock wsX6_leftAt := goodIn_r _ [31, 32, 33, 34, 35, 36, 37, 38, 39, 40, 41, 42, 43, 44, 45, 46, 30, 47, 48, 49, 50, 51, 4, 5, 6, 7, 8, 9, 10, 11, 12, 13, 14, 15, 16, 17, 18, 19, 20, 21, 22, 23, 24, 25, 26, 52, 53, 54, 55, 56, 57, 58, 59, 60, 61, 62, 63, 64, 65, 66, 67, 68, 69, 70, 71, 72, 73, 74, 75, 76, 77, 78, 88, 89, 90, 91, 92, 93, 94, 79, 80, 81, 82, 83, 84, 85, 86, 87, 98, 99, 100, 101, 102, 103, 104, 105, 106, 107, 108, 109, 110, 111, 112, 113, 114, 95, 96, 97] (by decide +kernel) (by decide +kernel)
set_option maxRecDepth 20000 in
theorem gX6_takeStock_X6_leftAt : GoodIn wsX6_takeStock (wsV RX6 137 RX6 yX6_leftAt wsX6_leftAt) := goodIn_app (goodIn_of _ (by decide +kernel)) ggX6_takeStock_X6_leftAt
theorem dX6_takeStock_0 : decode cX6_takeStock 0 = .ok (.iconst 0, 1) := by decide +kernel
theorem dX6_takeStock_1 : decode cX6_takeStock 1 = .ok (.istore_n 2, 1) := by decide +kernel
theorem dX6_takeStock_2 : decode cX6_takeStock 2 = .ok (.iload_n 2, 1) := by decide +kernel
theorem dX6_takeStock_3 : decode cX6_takeStock 3 = .ok (.aload_n 0, 1) := by decide +kernel
theorem dX6_takeStock_4 : decode cX6_takeStock 4 = .ok (.getfield 12, 3) := by decide +kernel
theorem dX6_takeStock_7 : decode cX6_takeStock 7 = .ok (.invokevirtual 47, 3) := by decide +kernel
theorem dX6_takeStock_10 : decode cX6_takeStock 10 = .ok (.if_icmp .ge 31, 3) := by decide +kernel
theorem dX6_takeStock_13 : decode cX6_takeStock 13 = .ok (.aload_n 0, 1) := by decide +kernel
theorem dX6_takeStock_14 : decode cX6_takeStock 14 = .ok (.getfield 12, 3) := by decide +kernel
theorem dX6_takeStock_17 : decode cX6_takeStock 17 = .ok (.iload_n 2, 1) := by decide +kernel
theorem dX6_takeStock_18 : decode cX6_takeStock 18 = .ok (.invokevirtual 122, 3) := by decide +kernel
theorem dX6_takeStock_21 : decode cX6_takeStock 21 = .ok (.checkcast 56, 3) := by decide +kernel
theorem dX6_takeStock_24 : decode cX6_takeStock 24 = .ok (.astore_n 3, 1) := by decide +kernel
theorem dX6_takeStock_25 : decode cX6_takeStock 25 = .ok (.aload_n 3, 1) := by decide +kernel
theorem dX6_takeStock_26 : decode cX6_takeStock 26 = .ok (.aload_n 0, 1) := by decide +kernel
theorem dX6_takeStock_27 : decode cX6_takeStock 27 = .ok (.iload_n 1, 1) := by decide +kernel
theorem dX6_takeStock_28 : decode cX6_takeStock 28 = .ok (.aload_n 3, 1) := by decide +kernel
theorem dX6_takeStock_29 : decode cX6_takeStock 29 = .ok (.invokevirtual 137, 3) := by decide +kernel
theorem dX6_takeStock_32 : decode cX6_takeStock 32 = .ok (.putfield 337, 3) := by decide +kernel
theorem dX6_takeStock_35 : decode cX6_takeStock 35 = .ok (.iinc 2 1, 3) := by decide +kernel
theorem dX6_takeStock_38 : decode cX6_takeStock 38 = .ok (.goto (-36), 3) := by decide +kernel
theorem dX6_takeStock_41 : decode cX6_takeStock 41 = .ok (.return_, 1) := by decide +kernel
set_option maxRecDepth 20000 in
theorem ggX6_guestsWithoutPart_Jx4a65c_size_8abf5 : GoodIn wsX6_guestsWithoutPart wsJx4a65c_size_8abf5 := goodIn_r _ [7, 8, 65, 66, 67] (by decide +kernel) (by decide +kernel)
set_option maxRecDepth 20000 in
theorem gX6_guestsWithoutPart_Jx4a65c_size_8abf5 : GoodIn wsX6_guestsWithoutPart (wsV RX6 47 RJx4a65c yJx4a65c_size_8abf5 wsJx4a65c_size_8abf5) := goodIn_app (goodIn_of _ (by decide +kernel)) ggX6_guestsWithoutPart_Jx4a65c_size_8abf5
set_option maxRecDepth 20000 in
theorem ggX6_guestsWithoutPart_Jx4a65c_get_915e3 : GoodIn wsX6_guestsWithoutPart wsJx4a65c_get_915e3 := goodIn_r _ [12, 8, 13, 14, 15, 16, 17, 18, 19, 20, 21, 22, 23, 6, 24, 25, 65, 66, 67] (by decide +kernel) (by decide +kernel)
set_option maxRecDepth 20000 in
theorem gX6_guestsWithoutPart_Jx4a65c_get_915e3 : GoodIn wsX6_guestsWithoutPart (wsV RX6 122 RJx4a65c yJx4a65c_get_915e3 wsJx4a65c_get_915e3) := goodIn_app (goodIn_of _ (by decide +kernel)) ggX6_guestsWithoutPart_Jx4a65c_get_915e3
set_option maxRecDepth 20000 in
theorem ggX6_guestsWithoutPart_X6_giftsBy : GoodIn wsX6_guestsWithoutPart wsX6_giftsBy := goodIn_r _ [30, 31, 32, 33, 34, 35, 3, 4, 5, 6, 7, 8, 9, 10, 11, 12, 13, 14, 15, 16, 17, 18, 19, 20, 21, 22, 23, 24, 25, 36, 37, 29, 38, 56, 57, 58, 59, 60, 61, 62, 63, 64, 68, 69, 70, 71, 72, 73, 74, 75, 76, 77, 78, 79, 80, 81, 82, 83, 84, 65, 66, 67] (by decide +kernel) (by decide +kernel)
set_option maxRecDepth 20000 in
theorem gX6_guestsWithoutPart_X6_giftsBy : GoodIn wsX6_guestsWithoutPart (wsV RX6 247 RX6 yX6_giftsBy wsX6_giftsBy) := goodIn_app (goodIn_of _ (by decide +kernel)) ggX6_guestsWithoutPart_X6_giftsBy
set_option maxRecDepth 20000 in
theorem ggX6_guestsWithoutPart_X6_pledgedBy : GoodIn wsX6_guestsWithoutPart wsX6_pledgedBy := goodIn_r _ [42, 43, 44, 3, 4, 5, 6, 7, 8, 9, 10, 11, 12, 13, 14, 15, 16, 17, 18, 19, 20, 21, 22, 23, 24, 25, 45, 46, 47, 48, 49, 50, 51, 52, 53, 54, 55, 56, 57, 58, 59, 60, 61, 62, 63, 64, 65, 66, 67, 85, 86, 87, 88, 89, 90, 91, 92, 93] (by decide +kernel) (by decide +kernel)
set_option maxRecDepth 20000 in
theorem gX6_guestsWithoutPart_X6_pledgedBy : GoodIn wsX6_guestsWithoutPart (wsV RX6 255 RX6 yX6_pledgedBy wsX6_pledgedBy) := goodIn_app (goodIn_of _ (by decide +kernel)) ggX6_guestsWithoutPart_X6_pledgedBy
theorem dX6_guestsWithoutPart_0 : decode cX6_guestsWithoutPart 0 = .ok (.iconst 0, 1) := by decide +kernel
theorem dX6_guestsWithoutPart_1 : decode cX6_guestsWithoutPart 1 = .ok (.istore_n 1, 1) := by decide +kernel
theorem dX6_guestsWithoutPart_2 : decode cX6_guestsWithoutPart 2 = .ok (.iconst 0, 1) := by decide +kernel
theorem dX6_guestsWithoutPart_3 : decode cX6_guestsWithoutPart 3 = .ok (.istore_n 2, 1) := by decide +kernel
theorem dX6_guestsWithoutPart_4 : decode cX6_guestsWithoutPart 4 = .ok (.iload_n 2, 1) := by decide +kernel
theorem dX6_guestsWithoutPart_5 : decode cX6_guestsWithoutPart 5 = .ok (.aload_n 0, 1) := by decide +kernel
theorem dX6_guestsWithoutPart_6 : decode cX6_guestsWithoutPart 6 = .ok (.getfield 16, 3) := by decide +kernel
theorem dX6_guestsWithoutPart_9 : decode cX6_guestsWithoutPart 9 = .ok (.invokevirtual 47, 3) := by decide +kernel
theorem dX6_guestsWithoutPart_12 : decode cX6_guestsWithoutPart 12 = .ok (.if_icmp .ge 44, 3) := by decide +kernel
theorem dX6_guestsWithoutPart_15 : decode cX6_guestsWithoutPart 15 = .ok (.aload_n 0, 1) := by decide +kernel
theorem dX6_guestsWithoutPart_16 : decode cX6_guestsWithoutPart 16 = .ok (.getfield 16, 3) := by decide +kernel
theorem dX6_guestsWithoutPart_19 : decode cX6_guestsWithoutPart 19 = .ok (.iload_n 2, 1) := by decide +kernel
theorem dX6_guestsWithoutPart_20 : decode cX6_guestsWithoutPart 20 = .ok (.invokevirtual 122, 3) := by decide +kernel
theorem dX6_guestsWithoutPart_23 : decode cX6_guestsWithoutPart 23 = .ok (.checkcast 69, 3) := by decide +kernel
theorem dX6_guestsWithoutPart_26 : decode cX6_guestsWithoutPart 26 = .ok (.astore_n 3, 1) := by decide +kernel
theorem dX6_guestsWithoutPart_27 : decode cX6_guestsWithoutPart 27 = .ok (.aload_n 0, 1) := by decide +kernel
theorem dX6_guestsWithoutPart_28 : decode cX6_guestsWithoutPart 28 = .ok (.aload_n 3, 1) := by decide +kernel
theorem dX6_guestsWithoutPart_29 : decode cX6_guestsWithoutPart 29 = .ok (.iconst 0, 1) := by decide +kernel
theorem dX6_guestsWithoutPart_30 : decode cX6_guestsWithoutPart 30 = .ok (.invokevirtual 247, 3) := by decide +kernel
theorem dX6_guestsWithoutPart_33 : decode cX6_guestsWithoutPart 33 = .ok (.ifCond .ne 17, 3) := by decide +kernel
theorem dX6_guestsWithoutPart_36 : decode cX6_guestsWithoutPart 36 = .ok (.aload_n 0, 1) := by decide +kernel
theorem dX6_guestsWithoutPart_37 : decode cX6_guestsWithoutPart 37 = .ok (.aload_n 3, 1) := by decide +kernel
theorem dX6_guestsWithoutPart_38 : decode cX6_guestsWithoutPart 38 = .ok (.invokevirtual 255, 3) := by decide +kernel
theorem dX6_guestsWithoutPart_41 : decode cX6_guestsWithoutPart 41 = .ok (.ifCond .ne 9, 3) := by decide +kernel
theorem dX6_guestsWithoutPart_44 : decode cX6_guestsWithoutPart 44 = .ok (.iload_n 1, 1) := by decide +kernel
theorem dX6_guestsWithoutPart_45 : decode cX6_guestsWithoutPart 45 = .ok (.iconst 1, 1) := by decide +kernel
theorem dX6_guestsWithoutPart_46 : decode cX6_guestsWithoutPart 46 = .ok (.iload_n 2, 1) := by decide +kernel
theorem dX6_guestsWithoutPart_47 : decode cX6_guestsWithoutPart 47 = .ok (.ishl, 1) := by decide +kernel
theorem dX6_guestsWithoutPart_48 : decode cX6_guestsWithoutPart 48 = .ok (.ior, 1) := by decide +kernel
theorem dX6_guestsWithoutPart_49 : decode cX6_guestsWithoutPart 49 = .ok (.istore_n 1, 1) := by decide +kernel
theorem dX6_guestsWithoutPart_50 : decode cX6_guestsWithoutPart 50 = .ok (.iinc 2 1, 3) := by decide +kernel
theorem dX6_guestsWithoutPart_53 : decode cX6_guestsWithoutPart 53 = .ok (.goto (-49), 3) := by decide +kernel
theorem dX6_guestsWithoutPart_56 : decode cX6_guestsWithoutPart 56 = .ok (.iload_n 1, 1) := by decide +kernel
theorem dX6_guestsWithoutPart_57 : decode cX6_guestsWithoutPart 57 = .ok (.ireturn, 1) := by decide +kernel
set_option maxRecDepth 20000 in
theorem ggX6_fillBy_J6_bitCount_0f7a4 : GoodIn wsX6_fillBy wsJ6_bitCount_0f7a4 := goodIn_r _ [11, 12, 13, 14] (by decide +kernel) (by decide +kernel)
set_option maxRecDepth 20000 in
theorem gX6_fillBy_J6_bitCount_0f7a4 : GoodIn wsX6_fillBy (va_wsS RX6 111 yJ6_bitCount_0f7a4 wsJ6_bitCount_0f7a4) := goodIn_app (goodIn_of _ (by decide +kernel)) ggX6_fillBy_J6_bitCount_0f7a4
set_option maxRecDepth 20000 in
theorem ggX6_fillBy_Jx4a65c_size_8abf5 : GoodIn wsX6_fillBy wsJx4a65c_size_8abf5 := goodIn_r _ [19, 20, 62, 63, 64] (by decide +kernel) (by decide +kernel)
set_option maxRecDepth 20000 in
theorem gX6_fillBy_Jx4a65c_size_8abf5 : GoodIn wsX6_fillBy (wsV RX6 47 RJx4a65c yJx4a65c_size_8abf5 wsJx4a65c_size_8abf5) := goodIn_app (goodIn_of _ (by decide +kernel)) ggX6_fillBy_Jx4a65c_size_8abf5
set_option maxRecDepth 20000 in
theorem ggX6_fillBy_Jx4a65c_get_915e3 : GoodIn wsX6_fillBy wsJx4a65c_get_915e3 := goodIn_r _ [24, 20, 25, 26, 27, 28, 29, 30, 31, 32, 33, 34, 35, 18, 36, 37, 62, 63, 64] (by decide +kernel) (by decide +kernel)
set_option maxRecDepth 20000 in
theorem gX6_fillBy_Jx4a65c_get_915e3 : GoodIn wsX6_fillBy (wsV RX6 122 RJx4a65c yJx4a65c_get_915e3 wsJx4a65c_get_915e3) := goodIn_app (goodIn_of _ (by decide +kernel)) ggX6_fillBy_Jx4a65c_get_915e3
set_option maxRecDepth 20000 in
theorem ggX6_fillBy_X6_buyersAbove : GoodIn wsX6_fillBy wsX6_buyersAbove := goodIn_r _ [42, 1, 2, 3, 15, 16, 17, 18, 19, 20, 21, 22, 23, 24, 25, 26, 27, 28, 29, 30, 31, 32, 33, 34, 35, 36, 37, 51, 52, 53, 54, 55, 56, 57, 58, 59, 60, 61, 62, 63, 64] (by decide +kernel) (by decide +kernel)
set_option maxRecDepth 20000 in
theorem gX6_fillBy_X6_buyersAbove : GoodIn wsX6_fillBy (wsV RX6 449 RX6 yX6_buyersAbove wsX6_buyersAbove) := goodIn_app (goodIn_of _ (by decide +kernel)) ggX6_fillBy_X6_buyersAbove
set_option maxRecDepth 20000 in
theorem ggX6_fillBy_X6_stockWithin : GoodIn wsX6_fillBy wsX6_stockWithin := goodIn_r _ [46, 47, 48, 49, 50, 15, 16, 17, 18, 19, 20, 21, 22, 23, 24, 25, 26, 27, 28, 29, 30, 31, 32, 33, 34, 35, 36, 37, 51, 52, 53, 54, 55, 56, 57, 58, 59, 65, 66, 67, 68, 69, 70, 71, 62, 63, 64] (by decide +kernel) (by decide +kernel)
set_option maxRecDepth 20000 in
theorem gX6_fillBy_X6_stockWithin : GoodIn wsX6_fillBy (wsV RX6 452 RX6 yX6_stockWithin wsX6_stockWithin) := goodIn_app (goodIn_of _ (by decide +kernel)) ggX6_fillBy_X6_stockWithin
theorem dX6_fillBy_0 : decode cX6_fillBy 0 = .ok (.iload_n 1, 1) := by decide +kernel
theorem dX6_fillBy_1 : decode cX6_fillBy 1 = .ok (.invokestatic 111, 3) := by decide +kernel
theorem dX6_fillBy_4 : decode cX6_fillBy 4 = .ok (.istore_n 3, 1) := by decide +kernel
theorem dX6_fillBy_5 : decode cX6_fillBy 5 = .ok (.iconst 0, 1) := by decide +kernel
theorem dX6_fillBy_6 : decode cX6_fillBy 6 = .ok (.istore 4, 2) := by decide +kernel
theorem dX6_fillBy_8 : decode cX6_fillBy 8 = .ok (.iload 4, 2) := by decide +kernel
theorem dX6_fillBy_10 : decode cX6_fillBy 10 = .ok (.aload_n 0, 1) := by decide +kernel
theorem dX6_fillBy_11 : decode cX6_fillBy 11 = .ok (.getfield 16, 3) := by decide +kernel
theorem dX6_fillBy_14 : decode cX6_fillBy 14 = .ok (.invokevirtual 47, 3) := by decide +kernel
theorem dX6_fillBy_17 : decode cX6_fillBy 17 = .ok (.if_icmp .ge 55, 3) := by decide +kernel
theorem dX6_fillBy_20 : decode cX6_fillBy 20 = .ok (.iload_n 1, 1) := by decide +kernel
theorem dX6_fillBy_21 : decode cX6_fillBy 21 = .ok (.iload 4, 2) := by decide +kernel
theorem dX6_fillBy_23 : decode cX6_fillBy 23 = .ok (.ishr, 1) := by decide +kernel
theorem dX6_fillBy_24 : decode cX6_fillBy 24 = .ok (.iconst 1, 1) := by decide +kernel
theorem dX6_fillBy_25 : decode cX6_fillBy 25 = .ok (.iand, 1) := by decide +kernel
theorem dX6_fillBy_26 : decode cX6_fillBy 26 = .ok (.ifCond .eq 40, 3) := by decide +kernel
theorem dX6_fillBy_29 : decode cX6_fillBy 29 = .ok (.aload_n 0, 1) := by decide +kernel
theorem dX6_fillBy_30 : decode cX6_fillBy 30 = .ok (.getfield 16, 3) := by decide +kernel
theorem dX6_fillBy_33 : decode cX6_fillBy 33 = .ok (.iload 4, 2) := by decide +kernel
theorem dX6_fillBy_35 : decode cX6_fillBy 35 = .ok (.invokevirtual 122, 3) := by decide +kernel
theorem dX6_fillBy_38 : decode cX6_fillBy 38 = .ok (.checkcast 69, 3) := by decide +kernel
theorem dX6_fillBy_41 : decode cX6_fillBy 41 = .ok (.getfield 158, 3) := by decide +kernel
theorem dX6_fillBy_44 : decode cX6_fillBy 44 = .ok (.istore 5, 2) := by decide +kernel
theorem dX6_fillBy_46 : decode cX6_fillBy 46 = .ok (.iload_n 3, 1) := by decide +kernel
theorem dX6_fillBy_47 : decode cX6_fillBy 47 = .ok (.aload_n 0, 1) := by decide +kernel
theorem dX6_fillBy_48 : decode cX6_fillBy 48 = .ok (.iload_n 1, 1) := by decide +kernel
theorem dX6_fillBy_49 : decode cX6_fillBy 49 = .ok (.iload 5, 2) := by decide +kernel
theorem dX6_fillBy_51 : decode cX6_fillBy 51 = .ok (.invokevirtual 449, 3) := by decide +kernel
theorem dX6_fillBy_54 : decode cX6_fillBy 54 = .ok (.aload_n 0, 1) := by decide +kernel
theorem dX6_fillBy_55 : decode cX6_fillBy 55 = .ok (.iload 5, 2) := by decide +kernel
theorem dX6_fillBy_57 : decode cX6_fillBy 57 = .ok (.iload_n 2, 1) := by decide +kernel
theorem dX6_fillBy_58 : decode cX6_fillBy 58 = .ok (.invokevirtual 452, 3) := by decide +kernel
theorem dX6_fillBy_61 : decode cX6_fillBy 61 = .ok (.iadd, 1) := by decide +kernel
theorem dX6_fillBy_62 : decode cX6_fillBy 62 = .ok (.invokestatic 209, 3) := by decide +kernel
theorem dX6_fillBy_65 : decode cX6_fillBy 65 = .ok (.istore_n 3, 1) := by decide +kernel
theorem dX6_fillBy_66 : decode cX6_fillBy 66 = .ok (.iinc 4 1, 3) := by decide +kernel
theorem dX6_fillBy_69 : decode cX6_fillBy 69 = .ok (.goto (-61), 3) := by decide +kernel
theorem dX6_fillBy_72 : decode cX6_fillBy 72 = .ok (.iload_n 3, 1) := by decide +kernel
theorem dX6_fillBy_73 : decode cX6_fillBy 73 = .ok (.ireturn, 1) := by decide +kernel
set_option maxRecDepth 20000 in
theorem ggX6_buyersAbove_Jx4a65c_size_8abf5 : GoodIn wsX6_buyersAbove wsJx4a65c_size_8abf5 := goodIn_r _ [8, 9, 38, 39, 40] (by decide +kernel) (by decide +kernel)
set_option maxRecDepth 20000 in
theorem gX6_buyersAbove_Jx4a65c_size_8abf5 : GoodIn wsX6_buyersAbove (wsV RX6 47 RJx4a65c yJx4a65c_size_8abf5 wsJx4a65c_size_8abf5) := goodIn_app (goodIn_of _ (by decide +kernel)) ggX6_buyersAbove_Jx4a65c_size_8abf5
set_option maxRecDepth 20000 in
theorem ggX6_buyersAbove_Jx4a65c_get_915e3 : GoodIn wsX6_buyersAbove wsJx4a65c_get_915e3 := goodIn_r _ [13, 9, 14, 15, 16, 17, 18, 19, 20, 21, 22, 23, 24, 7, 25, 26, 38, 39, 40] (by decide +kernel) (by decide +kernel)
set_option maxRecDepth 20000 in
theorem gX6_buyersAbove_Jx4a65c_get_915e3 : GoodIn wsX6_buyersAbove (wsV RX6 122 RJx4a65c yJx4a65c_get_915e3 wsJx4a65c_get_915e3) := goodIn_app (goodIn_of _ (by decide +kernel)) ggX6_buyersAbove_Jx4a65c_get_915e3
theorem dX6_buyersAbove_0 : decode cX6_buyersAbove 0 = .ok (.iconst 0, 1) := by decide +kernel
theorem dX6_buyersAbove_1 : decode cX6_buyersAbove 1 = .ok (.istore_n 3, 1) := by decide +kernel
theorem dX6_buyersAbove_2 : decode cX6_buyersAbove 2 = .ok (.iconst 0, 1) := by decide +kernel
theorem dX6_buyersAbove_3 : decode cX6_buyersAbove 3 = .ok (.istore 4, 2) := by decide +kernel
theorem dX6_buyersAbove_5 : decode cX6_buyersAbove 5 = .ok (.iload 4, 2) := by decide +kernel
theorem dX6_buyersAbove_7 : decode cX6_buyersAbove 7 = .ok (.aload_n 0, 1) := by decide +kernel
theorem dX6_buyersAbove_8 : decode cX6_buyersAbove 8 = .ok (.getfield 16, 3) := by decide +kernel
theorem dX6_buyersAbove_11 : decode cX6_buyersAbove 11 = .ok (.invokevirtual 47, 3) := by decide +kernel
theorem dX6_buyersAbove_14 : decode cX6_buyersAbove 14 = .ok (.if_icmp .ge 40, 3) := by decide +kernel
theorem dX6_buyersAbove_17 : decode cX6_buyersAbove 17 = .ok (.iload_n 1, 1) := by decide +kernel
theorem dX6_buyersAbove_18 : decode cX6_buyersAbove 18 = .ok (.iload 4, 2) := by decide +kernel
theorem dX6_buyersAbove_20 : decode cX6_buyersAbove 20 = .ok (.ishr, 1) := by decide +kernel
theorem dX6_buyersAbove_21 : decode cX6_buyersAbove 21 = .ok (.iconst 1, 1) := by decide +kernel
theorem dX6_buyersAbove_22 : decode cX6_buyersAbove 22 = .ok (.iand, 1) := by decide +kernel
theorem dX6_buyersAbove_23 : decode cX6_buyersAbove 23 = .ok (.ifCond .eq 25, 3) := by decide +kernel
theorem dX6_buyersAbove_26 : decode cX6_buyersAbove 26 = .ok (.aload_n 0, 1) := by decide +kernel
theorem dX6_buyersAbove_27 : decode cX6_buyersAbove 27 = .ok (.getfield 16, 3) := by decide +kernel
theorem dX6_buyersAbove_30 : decode cX6_buyersAbove 30 = .ok (.iload 4, 2) := by decide +kernel
theorem dX6_buyersAbove_32 : decode cX6_buyersAbove 32 = .ok (.invokevirtual 122, 3) := by decide +kernel
theorem dX6_buyersAbove_35 : decode cX6_buyersAbove 35 = .ok (.checkcast 69, 3) := by decide +kernel
theorem dX6_buyersAbove_38 : decode cX6_buyersAbove 38 = .ok (.getfield 158, 3) := by decide +kernel
theorem dX6_buyersAbove_41 : decode cX6_buyersAbove 41 = .ok (.iload_n 2, 1) := by decide +kernel
theorem dX6_buyersAbove_42 : decode cX6_buyersAbove 42 = .ok (.if_icmp .le 6, 3) := by decide +kernel
theorem dX6_buyersAbove_45 : decode cX6_buyersAbove 45 = .ok (.iinc 3 1, 3) := by decide +kernel
theorem dX6_buyersAbove_48 : decode cX6_buyersAbove 48 = .ok (.iinc 4 1, 3) := by decide +kernel
theorem dX6_buyersAbove_51 : decode cX6_buyersAbove 51 = .ok (.goto (-46), 3) := by decide +kernel
theorem dX6_buyersAbove_54 : decode cX6_buyersAbove 54 = .ok (.iload_n 3, 1) := by decide +kernel
theorem dX6_buyersAbove_55 : decode cX6_buyersAbove 55 = .ok (.ireturn, 1) := by decide +kernel
set_option maxRecDepth 20000 in
theorem ggX6_stockWithin_Jx4a65c_size_8abf5 : GoodIn wsX6_stockWithin wsJx4a65c_size_8abf5 := goodIn_r _ [9, 10, 44, 45, 46] (by decide +kernel) (by decide +kernel)
set_option maxRecDepth 20000 in
theorem gX6_stockWithin_Jx4a65c_size_8abf5 : GoodIn wsX6_stockWithin (wsV RX6 47 RJx4a65c yJx4a65c_size_8abf5 wsJx4a65c_size_8abf5) := goodIn_app (goodIn_of _ (by decide +kernel)) ggX6_stockWithin_Jx4a65c_size_8abf5
set_option maxRecDepth 20000 in
theorem ggX6_stockWithin_Jx4a65c_get_915e3 : GoodIn wsX6_stockWithin wsJx4a65c_get_915e3 := goodIn_r _ [14, 10, 15, 16, 17, 18, 19, 20, 21, 22, 23, 24, 25, 8, 26, 27, 44, 45, 46] (by decide +kernel) (by decide +kernel)
set_option maxRecDepth 20000 in
theorem gX6_stockWithin_Jx4a65c_get_915e3 : GoodIn wsX6_stockWithin (wsV RX6 122 RJx4a65c yJx4a65c_get_915e3 wsJx4a65c_get_915e3) := goodIn_app (goodIn_of _ (by decide +kernel)) ggX6_stockWithin_Jx4a65c_get_915e3
theorem dX6_stockWithin_0 : decode cX6_stockWithin 0 = .ok (.iconst 0, 1) := by decide +kernel
theorem dX6_stockWithin_1 : decode cX6_stockWithin 1 = .ok (.istore_n 3, 1) := by decide +kernel
theorem dX6_stockWithin_2 : decode cX6_stockWithin 2 = .ok (.iconst 0, 1) := by decide +kernel
theorem dX6_stockWithin_3 : decode cX6_stockWithin 3 = .ok (.istore 4, 2) := by decide +kernel
theorem dX6_stockWithin_5 : decode cX6_stockWithin 5 = .ok (.iload 4, 2) := by decide +kernel
theorem dX6_stockWithin_7 : decode cX6_stockWithin 7 = .ok (.aload_n 0, 1) := by decide +kernel
theorem dX6_stockWithin_8 : decode cX6_stockWithin 8 = .ok (.getfield 12, 3) := by decide +kernel
theorem dX6_stockWithin_11 : decode cX6_stockWithin 11 = .ok (.invokevirtual 47, 3) := by decide +kernel
theorem dX6_stockWithin_14 : decode cX6_stockWithin 14 = .ok (.if_icmp .ge 56, 3) := by decide +kernel
theorem dX6_stockWithin_17 : decode cX6_stockWithin 17 = .ok (.aload_n 0, 1) := by decide +kernel
theorem dX6_stockWithin_18 : decode cX6_stockWithin 18 = .ok (.getfield 12, 3) := by decide +kernel
theorem dX6_stockWithin_21 : decode cX6_stockWithin 21 = .ok (.iload 4, 2) := by decide +kernel
theorem dX6_stockWithin_23 : decode cX6_stockWithin 23 = .ok (.invokevirtual 122, 3) := by decide +kernel
theorem dX6_stockWithin_26 : decode cX6_stockWithin 26 = .ok (.checkcast 56, 3) := by decide +kernel
theorem dX6_stockWithin_29 : decode cX6_stockWithin 29 = .ok (.astore 5, 2) := by decide +kernel
theorem dX6_stockWithin_31 : decode cX6_stockWithin 31 = .ok (.aload 5, 2) := by decide +kernel
theorem dX6_stockWithin_33 : decode cX6_stockWithin 33 = .ok (.getfield 88, 3) := by decide +kernel
theorem dX6_stockWithin_36 : decode cX6_stockWithin 36 = .ok (.iload_n 1, 1) := by decide +kernel
theorem dX6_stockWithin_37 : decode cX6_stockWithin 37 = .ok (.if_icmp .gt 27, 3) := by decide +kernel
theorem dX6_stockWithin_40 : decode cX6_stockWithin 40 = .ok (.iload_n 3, 1) := by decide +kernel
theorem dX6_stockWithin_41 : decode cX6_stockWithin 41 = .ok (.iload 4, 2) := by decide +kernel
theorem dX6_stockWithin_43 : decode cX6_stockWithin 43 = .ok (.iload_n 2, 1) := by decide +kernel
theorem dX6_stockWithin_44 : decode cX6_stockWithin 44 = .ok (.if_icmp .ne 13, 3) := by decide +kernel
theorem dX6_stockWithin_47 : decode cX6_stockWithin 47 = .ok (.aload 5, 2) := by decide +kernel
theorem dX6_stockWithin_49 : decode cX6_stockWithin 49 = .ok (.getfield 337, 3) := by decide +kernel
theorem dX6_stockWithin_52 : decode cX6_stockWithin 52 = .ok (.iconst 1, 1) := by decide +kernel
theorem dX6_stockWithin_53 : decode cX6_stockWithin 53 = .ok (.isub, 1) := by decide +kernel
theorem dX6_stockWithin_54 : decode cX6_stockWithin 54 = .ok (.goto 8, 3) := by decide +kernel
theorem dX6_stockWithin_57 : decode cX6_stockWithin 57 = .ok (.aload 5, 2) := by decide +kernel
theorem dX6_stockWithin_59 : decode cX6_stockWithin 59 = .ok (.getfield 337, 3) := by decide +kernel
theorem dX6_stockWithin_62 : decode cX6_stockWithin 62 = .ok (.iadd, 1) := by decide +kernel
theorem dX6_stockWithin_63 : decode cX6_stockWithin 63 = .ok (.istore_n 3, 1) := by decide +kernel
theorem dX6_stockWithin_64 : decode cX6_stockWithin 64 = .ok (.iinc 4 1, 3) := by decide +kernel
theorem dX6_stockWithin_67 : decode cX6_stockWithin 67 = .ok (.goto (-62), 3) := by decide +kernel
theorem dX6_stockWithin_70 : decode cX6_stockWithin 70 = .ok (.iload_n 3, 1) := by decide +kernel
theorem dX6_stockWithin_71 : decode cX6_stockWithin 71 = .ok (.ireturn, 1) := by decide +kernel
theorem dX6_oneIf_0 : decode cX6_oneIf 0 = .ok (.iload_n 0, 1) := by decide +kernel
theorem dX6_oneIf_1 : decode cX6_oneIf 1 = .ok (.ifCond .eq 7, 3) := by decide +kernel
theorem dX6_oneIf_4 : decode cX6_oneIf 4 = .ok (.iconst 1, 1) := by decide +kernel
theorem dX6_oneIf_5 : decode cX6_oneIf 5 = .ok (.goto 4, 3) := by decide +kernel
theorem dX6_oneIf_8 : decode cX6_oneIf 8 = .ok (.iconst 0, 1) := by decide +kernel
theorem dX6_oneIf_9 : decode cX6_oneIf 9 = .ok (.ireturn, 1) := by decide +kernel
set_option maxRecDepth 20000 in
theorem ggX6_giftsNow_Jx4a65c_size_8abf5 : GoodIn wsX6_giftsNow wsJx4a65c_size_8abf5 := goodIn_r _ [8, 9, 49, 50, 51] (by decide +kernel) (by decide +kernel)
set_option maxRecDepth 20000 in
theorem gX6_giftsNow_Jx4a65c_size_8abf5 : GoodIn wsX6_giftsNow (wsV RX6 47 RJx4a65c yJx4a65c_size_8abf5 wsJx4a65c_size_8abf5) := goodIn_app (goodIn_of _ (by decide +kernel)) ggX6_giftsNow_Jx4a65c_size_8abf5
set_option maxRecDepth 20000 in
theorem ggX6_giftsNow_Jx4a65c_get_915e3 : GoodIn wsX6_giftsNow wsJx4a65c_get_915e3 := goodIn_r _ [13, 9, 14, 15, 16, 17, 18, 19, 20, 21, 22, 23, 24, 7, 25, 26, 49, 50, 51] (by decide +kernel) (by decide +kernel)
set_option maxRecDepth 20000 in
theorem gX6_giftsNow_Jx4a65c_get_915e3 : GoodIn wsX6_giftsNow (wsV RX6 122 RJx4a65c yJx4a65c_get_915e3 wsJx4a65c_get_915e3) := goodIn_app (goodIn_of _ (by decide +kernel)) ggX6_giftsNow_Jx4a65c_get_915e3
set_option maxRecDepth 20000 in
theorem ggX6_giftsNow_X6_oneIf : GoodIn wsX6_giftsNow wsX6_oneIf := goodIn_r _ [30] (by decide +kernel) (by decide +kernel)
set_option maxRecDepth 20000 in
theorem gX6_giftsNow_X6_oneIf : GoodIn wsX6_giftsNow (va_wsS RX6 235 yX6_oneIf wsX6_oneIf) := goodIn_app (goodIn_of _ (by decide +kernel)) ggX6_giftsNow_X6_oneIf
theorem dX6_giftsNow_0 : decode cX6_giftsNow 0 = .ok (.iconst 0, 1) := by decide +kernel
theorem dX6_giftsNow_1 : decode cX6_giftsNow 1 = .ok (.istore_n 2, 1) := by decide +kernel
theorem dX6_giftsNow_2 : decode cX6_giftsNow 2 = .ok (.iconst 0, 1) := by decide +kernel
theorem dX6_giftsNow_3 : decode cX6_giftsNow 3 = .ok (.istore_n 3, 1) := by decide +kernel
theorem dX6_giftsNow_4 : decode cX6_giftsNow 4 = .ok (.iload_n 3, 1) := by decide +kernel
theorem dX6_giftsNow_5 : decode cX6_giftsNow 5 = .ok (.aload_n 0, 1) := by decide +kernel
theorem dX6_giftsNow_6 : decode cX6_giftsNow 6 = .ok (.getfield 19, 3) := by decide +kernel
theorem dX6_giftsNow_9 : decode cX6_giftsNow 9 = .ok (.invokevirtual 47, 3) := by decide +kernel
theorem dX6_giftsNow_12 : decode cX6_giftsNow 12 = .ok (.if_icmp .ge 38, 3) := by decide +kernel
theorem dX6_giftsNow_15 : decode cX6_giftsNow 15 = .ok (.iload_n 2, 1) := by decide +kernel
theorem dX6_giftsNow_16 : decode cX6_giftsNow 16 = .ok (.aload_n 0, 1) := by decide +kernel
theorem dX6_giftsNow_17 : decode cX6_giftsNow 17 = .ok (.getfield 19, 3) := by decide +kernel
theorem dX6_giftsNow_20 : decode cX6_giftsNow 20 = .ok (.iload_n 3, 1) := by decide +kernel
theorem dX6_giftsNow_21 : decode cX6_giftsNow 21 = .ok (.invokevirtual 122, 3) := by decide +kernel
theorem dX6_giftsNow_24 : decode cX6_giftsNow 24 = .ok (.checkcast 171, 3) := by decide +kernel
theorem dX6_giftsNow_27 : decode cX6_giftsNow 27 = .ok (.getfield 297, 3) := by decide +kernel
theorem dX6_giftsNow_30 : decode cX6_giftsNow 30 = .ok (.iload_n 1, 1) := by decide +kernel
theorem dX6_giftsNow_31 : decode cX6_giftsNow 31 = .ok (.if_icmp .ne 7, 3) := by decide +kernel
theorem dX6_giftsNow_34 : decode cX6_giftsNow 34 = .ok (.iconst 1, 1) := by decide +kernel
theorem dX6_giftsNow_35 : decode cX6_giftsNow 35 = .ok (.goto 4, 3) := by decide +kernel
theorem dX6_giftsNow_38 : decode cX6_giftsNow 38 = .ok (.iconst 0, 1) := by decide +kernel
theorem dX6_giftsNow_39 : decode cX6_giftsNow 39 = .ok (.invokestatic 235, 3) := by decide +kernel
theorem dX6_giftsNow_42 : decode cX6_giftsNow 42 = .ok (.iadd, 1) := by decide +kernel
theorem dX6_giftsNow_43 : decode cX6_giftsNow 43 = .ok (.istore_n 2, 1) := by decide +kernel
theorem dX6_giftsNow_44 : decode cX6_giftsNow 44 = .ok (.iinc 3 1, 3) := by decide +kernel
theorem dX6_giftsNow_47 : decode cX6_giftsNow 47 = .ok (.goto (-43), 3) := by decide +kernel
theorem dX6_giftsNow_50 : decode cX6_giftsNow 50 = .ok (.iload_n 2, 1) := by decide +kernel
theorem dX6_giftsNow_51 : decode cX6_giftsNow 51 = .ok (.ireturn, 1) := by decide +kernel
set_option maxRecDepth 20000 in
theorem ggX6_giftsOf_Jx4a65c_size_8abf5 : GoodIn wsX6_giftsOf wsJx4a65c_size_8abf5 := goodIn_r _ [10, 11, 59, 60, 61] (by decide +kernel) (by decide +kernel)
set_option maxRecDepth 20000 in
theorem gX6_giftsOf_Jx4a65c_size_8abf5 : GoodIn wsX6_giftsOf (wsV RX6 47 RJx4a65c yJx4a65c_size_8abf5 wsJx4a65c_size_8abf5) := goodIn_app (goodIn_of _ (by decide +kernel)) ggX6_giftsOf_Jx4a65c_size_8abf5
set_option maxRecDepth 20000 in
theorem ggX6_giftsOf_Jx4a65c_get_915e3 : GoodIn wsX6_giftsOf wsJx4a65c_get_915e3 := goodIn_r _ [15, 11, 16, 17, 18, 19, 20, 21, 22, 23, 24, 25, 26, 9, 27, 28, 59, 60, 61] (by decide +kernel) (by decide +kernel)
set_option maxRecDepth 20000 in
theorem gX6_giftsOf_Jx4a65c_get_915e3 : GoodIn wsX6_giftsOf (wsV RX6 122 RJx4a65c yJx4a65c_get_915e3 wsJx4a65c_get_915e3) := goodIn_app (goodIn_of _ (by decide +kernel)) ggX6_giftsOf_Jx4a65c_get_915e3
set_option maxRecDepth 20000 in
theorem ggX6_giftsOf_X6_oneIf : GoodIn wsX6_giftsOf wsX6_oneIf := goodIn_r _ [32] (by decide +kernel) (by decide +kernel)
set_option maxRecDepth 20000 in
theorem gX6_giftsOf_X6_oneIf : GoodIn wsX6_giftsOf (va_wsS RX6 235 yX6_oneIf wsX6_oneIf) := goodIn_app (goodIn_of _ (by decide +kernel)) ggX6_giftsOf_X6_oneIf
theorem dX6_giftsOf_0 : decode cX6_giftsOf 0 = .ok (.iconst 0, 1) := by decide +kernel
theorem dX6_giftsOf_1 : decode cX6_giftsOf 1 = .ok (.istore_n 3, 1) := by decide +kernel
theorem dX6_giftsOf_2 : decode cX6_giftsOf 2 = .ok (.iconst 0, 1) := by decide +kernel
theorem dX6_giftsOf_3 : decode cX6_giftsOf 3 = .ok (.istore 4, 2) := by decide +kernel
theorem dX6_giftsOf_5 : decode cX6_giftsOf 5 = .ok (.iload 4, 2) := by decide +kernel
theorem dX6_giftsOf_7 : decode cX6_giftsOf 7 = .ok (.aload_n 0, 1) := by decide +kernel
theorem dX6_giftsOf_8 : decode cX6_giftsOf 8 = .ok (.getfield 19, 3) := by decide +kernel
theorem dX6_giftsOf_11 : decode cX6_giftsOf 11 = .ok (.invokevirtual 47, 3) := by decide +kernel
theorem dX6_giftsOf_14 : decode cX6_giftsOf 14 = .ok (.if_icmp .ge 52, 3) := by decide +kernel
theorem dX6_giftsOf_17 : decode cX6_giftsOf 17 = .ok (.aload_n 0, 1) := by decide +kernel
theorem dX6_giftsOf_18 : decode cX6_giftsOf 18 = .ok (.getfield 19, 3) := by decide +kernel
theorem dX6_giftsOf_21 : decode cX6_giftsOf 21 = .ok (.iload 4, 2) := by decide +kernel
theorem dX6_giftsOf_23 : decode cX6_giftsOf 23 = .ok (.invokevirtual 122, 3) := by decide +kernel
theorem dX6_giftsOf_26 : decode cX6_giftsOf 26 = .ok (.checkcast 171, 3) := by decide +kernel
theorem dX6_giftsOf_29 : decode cX6_giftsOf 29 = .ok (.astore 5, 2) := by decide +kernel
theorem dX6_giftsOf_31 : decode cX6_giftsOf 31 = .ok (.iload_n 3, 1) := by decide +kernel
theorem dX6_giftsOf_32 : decode cX6_giftsOf 32 = .ok (.aload 5, 2) := by decide +kernel
theorem dX6_giftsOf_34 : decode cX6_giftsOf 34 = .ok (.getfield 297, 3) := by decide +kernel
theorem dX6_giftsOf_37 : decode cX6_giftsOf 37 = .ok (.iload_n 2, 1) := by decide +kernel
theorem dX6_giftsOf_38 : decode cX6_giftsOf 38 = .ok (.if_icmp .ne 16, 3) := by decide +kernel
theorem dX6_giftsOf_41 : decode cX6_giftsOf 41 = .ok (.aload 5, 2) := by decide +kernel
theorem dX6_giftsOf_43 : decode cX6_giftsOf 43 = .ok (.getfield 185, 3) := by decide +kernel
theorem dX6_giftsOf_46 : decode cX6_giftsOf 46 = .ok (.aload_n 1, 1) := by decide +kernel
theorem dX6_giftsOf_47 : decode cX6_giftsOf 47 = .ok (.if_acmp .ne 7, 3) := by decide +kernel
theorem dX6_giftsOf_50 : decode cX6_giftsOf 50 = .ok (.iconst 1, 1) := by decide +kernel
theorem dX6_giftsOf_51 : decode cX6_giftsOf 51 = .ok (.goto 4, 3) := by decide +kernel
theorem dX6_giftsOf_54 : decode cX6_giftsOf 54 = .ok (.iconst 0, 1) := by decide +kernel
theorem dX6_giftsOf_55 : decode cX6_giftsOf 55 = .ok (.invokestatic 235, 3) := by decide +kernel
theorem dX6_giftsOf_58 : decode cX6_giftsOf 58 = .ok (.iadd, 1) := by decide +kernel
theorem dX6_giftsOf_59 : decode cX6_giftsOf 59 = .ok (.istore_n 3, 1) := by decide +kernel
theorem dX6_giftsOf_60 : decode cX6_giftsOf 60 = .ok (.iinc 4 1, 3) := by decide +kernel
theorem dX6_giftsOf_63 : decode cX6_giftsOf 63 = .ok (.goto (-58), 3) := by decide +kernel
theorem dX6_giftsOf_66 : decode cX6_giftsOf 66 = .ok (.iload_n 3, 1) := by decide +kernel
theorem dX6_giftsOf_67 : decode cX6_giftsOf 67 = .ok (.ireturn, 1) := by decide +kernel
set_option maxRecDepth 20000 in
theorem ggX6_giftsBy_Jx4a65c_size_8abf5 : GoodIn wsX6_giftsBy wsJx4a65c_size_8abf5 := goodIn_r _ [10, 11, 59, 60, 61] (by decide +kernel) (by decide +kernel)
set_option maxRecDepth 20000 in
theorem gX6_giftsBy_Jx4a65c_size_8abf5 : GoodIn wsX6_giftsBy (wsV RX6 47 RJx4a65c yJx4a65c_size_8abf5 wsJx4a65c_size_8abf5) := goodIn_app (goodIn_of _ (by decide +kernel)) ggX6_giftsBy_Jx4a65c_size_8abf5
set_option maxRecDepth 20000 in
theorem ggX6_giftsBy_Jx4a65c_get_915e3 : GoodIn wsX6_giftsBy wsJx4a65c_get_915e3 := goodIn_r _ [15, 11, 16, 17, 18, 19, 20, 21, 22, 23, 24, 25, 26, 9, 27, 28, 59, 60, 61] (by decide +kernel) (by decide +kernel)
set_option maxRecDepth 20000 in
theorem gX6_giftsBy_Jx4a65c_get_915e3 : GoodIn wsX6_giftsBy (wsV RX6 122 RJx4a65c yJx4a65c_get_915e3 wsJx4a65c_get_915e3) := goodIn_app (goodIn_of _ (by decide +kernel)) ggX6_giftsBy_Jx4a65c_get_915e3
set_option maxRecDepth 20000 in
theorem ggX6_giftsBy_X6_oneIf : GoodIn wsX6_giftsBy wsX6_oneIf := goodIn_r _ [32] (by decide +kernel) (by decide +kernel)
set_option maxRecDepth 20000 in
theorem gX6_giftsBy_X6_oneIf : GoodIn wsX6_giftsBy (va_wsS RX6 235 yX6_oneIf wsX6_oneIf) := goodIn_app (goodIn_of _ (by decide +kernel)) ggX6_giftsBy_X6_oneIf
theorem dX6_giftsBy_0 : decode cX6_giftsBy 0 = .ok (.iconst 0, 1) := by decide +kernel
theorem dX6_giftsBy_1 : decode cX6_giftsBy 1 = .ok (.istore_n 3, 1) := by decide +kernel
theorem dX6_giftsBy_2 : decode cX6_giftsBy 2 = .ok (.iconst 0, 1) := by decide +kernel
theorem dX6_giftsBy_3 : decode cX6_giftsBy 3 = .ok (.istore 4, 2) := by decide +kernel
theorem dX6_giftsBy_5 : decode cX6_giftsBy 5 = .ok (.iload 4, 2) := by decide +kernel
theorem dX6_giftsBy_7 : decode cX6_giftsBy 7 = .ok (.aload_n 0, 1) := by decide +kernel
theorem dX6_giftsBy_8 : decode cX6_giftsBy 8 = .ok (.getfield 19, 3) := by decide +kernel
theorem dX6_giftsBy_11 : decode cX6_giftsBy 11 = .ok (.invokevirtual 47, 3) := by decide +kernel
theorem dX6_giftsBy_14 : decode cX6_giftsBy 14 = .ok (.if_icmp .ge 52, 3) := by decide +kernel
theorem dX6_giftsBy_17 : decode cX6_giftsBy 17 = .ok (.aload_n 0, 1) := by decide +kernel
theorem dX6_giftsBy_18 : decode cX6_giftsBy 18 = .ok (.getfield 19, 3) := by decide +kernel
theorem dX6_giftsBy_21 : decode cX6_giftsBy 21 = .ok (.iload 4, 2) := by decide +kernel
theorem dX6_giftsBy_23 : decode cX6_giftsBy 23 = .ok (.invokevirtual 122, 3) := by decide +kernel
theorem dX6_giftsBy_26 : decode cX6_giftsBy 26 = .ok (.checkcast 171, 3) := by decide +kernel
theorem dX6_giftsBy_29 : decode cX6_giftsBy 29 = .ok (.astore 5, 2) := by decide +kernel
theorem dX6_giftsBy_31 : decode cX6_giftsBy 31 = .ok (.iload_n 3, 1) := by decide +kernel
theorem dX6_giftsBy_32 : decode cX6_giftsBy 32 = .ok (.aload 5, 2) := by decide +kernel
theorem dX6_giftsBy_34 : decode cX6_giftsBy 34 = .ok (.getfield 297, 3) := by decide +kernel
theorem dX6_giftsBy_37 : decode cX6_giftsBy 37 = .ok (.iload_n 2, 1) := by decide +kernel
theorem dX6_giftsBy_38 : decode cX6_giftsBy 38 = .ok (.if_icmp .ne 16, 3) := by decide +kernel
theorem dX6_giftsBy_41 : decode cX6_giftsBy 41 = .ok (.aload 5, 2) := by decide +kernel
theorem dX6_giftsBy_43 : decode cX6_giftsBy 43 = .ok (.getfield 181, 3) := by decide +kernel
theorem dX6_giftsBy_46 : decode cX6_giftsBy 46 = .ok (.aload_n 1, 1) := by decide +kernel
theorem dX6_giftsBy_47 : decode cX6_giftsBy 47 = .ok (.if_acmp .ne 7, 3) := by decide +kernel
theorem dX6_giftsBy_50 : decode cX6_giftsBy 50 = .ok (.iconst 1, 1) := by decide +kernel
theorem dX6_giftsBy_51 : decode cX6_giftsBy 51 = .ok (.goto 4, 3) := by decide +kernel
theorem dX6_giftsBy_54 : decode cX6_giftsBy 54 = .ok (.iconst 0, 1) := by decide +kernel
theorem dX6_giftsBy_55 : decode cX6_giftsBy 55 = .ok (.invokestatic 235, 3) := by decide +kernel
theorem dX6_giftsBy_58 : decode cX6_giftsBy 58 = .ok (.iadd, 1) := by decide +kernel
theorem dX6_giftsBy_59 : decode cX6_giftsBy 59 = .ok (.istore_n 3, 1) := by decide +kernel
theorem dX6_giftsBy_60 : decode cX6_giftsBy 60 = .ok (.iinc 4 1, 3) := by decide +kernel
theorem dX6_giftsBy_63 : decode cX6_giftsBy 63 = .ok (.goto (-58), 3) := by decide +kernel
theorem dX6_giftsBy_66 : decode cX6_giftsBy 66 = .ok (.iload_n 3, 1) := by decide +kernel
theorem dX6_giftsBy_67 : decode cX6_giftsBy 67 = .ok (.ireturn, 1) := by decide +kernel
set_option maxRecDepth 20000 in
theorem ggX6_keptBoughtAt_Jx4a65c_size_8abf5 : GoodIn wsX6_keptBoughtAt wsJx4a65c_size_8abf5 := goodIn_r _ [9, 10, 64, 65, 66] (by decide +kernel) (by decide +kernel)
set_option maxRecDepth 20000 in
theorem gX6_keptBoughtAt_Jx4a65c_size_8abf5 : GoodIn wsX6_keptBoughtAt (wsV RX6 47 RJx4a65c yJx4a65c_size_8abf5 wsJx4a65c_size_8abf5) := goodIn_app (goodIn_of _ (by decide +kernel)) ggX6_keptBoughtAt_Jx4a65c_size_8abf5
set_option maxRecDepth 20000 in
theorem ggX6_keptBoughtAt_Jx4a65c_get_915e3 : GoodIn wsX6_keptBoughtAt wsJx4a65c_get_915e3 := goodIn_r _ [14, 10, 15, 16, 17, 18, 19, 20, 21, 22, 23, 24, 25, 8, 26, 27, 64, 65, 66] (by decide +kernel) (by decide +kernel)
set_option maxRecDepth 20000 in
theorem gX6_keptBoughtAt_Jx4a65c_get_915e3 : GoodIn wsX6_keptBoughtAt (wsV RX6 122 RJx4a65c yJx4a65c_get_915e3 wsJx4a65c_get_915e3) := goodIn_app (goodIn_of _ (by decide +kernel)) ggX6_keptBoughtAt_Jx4a65c_get_915e3
set_option maxRecDepth 20000 in
theorem ggX6_keptBoughtAt_X1_isKept : GoodIn wsX6_keptBoughtAt wsX1_isKept := goodIn_r _ [32, 33, 47, 48, 49, 50, 51, 52, 53, 54, 55] (by decide +kernel) (by decide +kernel)
set_option maxRecDepth 20000 in
theorem gX6_keptBoughtAt_X1_isKept : GoodIn wsX6_keptBoughtAt (wsV RX6 177 RX1 yX1_isKept wsX1_isKept) := goodIn_app (goodIn_of _ (by decide +kernel)) ggX6_keptBoughtAt_X1_isKept
set_option maxRecDepth 20000 in
theorem ggX6_keptBoughtAt_X6_oneIf : GoodIn wsX6_keptBoughtAt wsX6_oneIf := goodIn_r _ [37] (by decide +kernel) (by decide +kernel)
set_option maxRecDepth 20000 in
theorem gX6_keptBoughtAt_X6_oneIf : GoodIn wsX6_keptBoughtAt (va_wsS RX6 235 yX6_oneIf wsX6_oneIf) := goodIn_app (goodIn_of _ (by decide +kernel)) ggX6_keptBoughtAt_X6_oneIf
theorem dX6_keptBoughtAt_0 : decode cX6_keptBoughtAt 0 = .ok (.iconst 0, 1) := by decide +kernel
theorem dX6_keptBoughtAt_1 : decode cX6_keptBoughtAt 1 = .ok (.istore_n 2, 1) := by decide +kernel
theorem dX6_keptBoughtAt_2 : decode cX6_keptBoughtAt 2 = .ok (.iconst 0, 1) := by decide +kernel
theorem dX6_keptBoughtAt_3 : decode cX6_keptBoughtAt 3 = .ok (.istore_n 3, 1) := by decide +kernel
theorem dX6_keptBoughtAt_4 : decode cX6_keptBoughtAt 4 = .ok (.iload_n 3, 1) := by decide +kernel
theorem dX6_keptBoughtAt_5 : decode cX6_keptBoughtAt 5 = .ok (.aload_n 0, 1) := by decide +kernel
theorem dX6_keptBoughtAt_6 : decode cX6_keptBoughtAt 6 = .ok (.getfield 19, 3) := by decide +kernel
theorem dX6_keptBoughtAt_9 : decode cX6_keptBoughtAt 9 = .ok (.invokevirtual 47, 3) := by decide +kernel
theorem dX6_keptBoughtAt_12 : decode cX6_keptBoughtAt 12 = .ok (.if_icmp .ge 50, 3) := by decide +kernel
theorem dX6_keptBoughtAt_15 : decode cX6_keptBoughtAt 15 = .ok (.aload_n 0, 1) := by decide +kernel
theorem dX6_keptBoughtAt_16 : decode cX6_keptBoughtAt 16 = .ok (.getfield 19, 3) := by decide +kernel
theorem dX6_keptBoughtAt_19 : decode cX6_keptBoughtAt 19 = .ok (.iload_n 3, 1) := by decide +kernel
theorem dX6_keptBoughtAt_20 : decode cX6_keptBoughtAt 20 = .ok (.invokevirtual 122, 3) := by decide +kernel
theorem dX6_keptBoughtAt_23 : decode cX6_keptBoughtAt 23 = .ok (.checkcast 171, 3) := by decide +kernel
theorem dX6_keptBoughtAt_26 : decode cX6_keptBoughtAt 26 = .ok (.astore 4, 2) := by decide +kernel
theorem dX6_keptBoughtAt_28 : decode cX6_keptBoughtAt 28 = .ok (.iload_n 2, 1) := by decide +kernel
theorem dX6_keptBoughtAt_29 : decode cX6_keptBoughtAt 29 = .ok (.aload 4, 2) := by decide +kernel
theorem dX6_keptBoughtAt_31 : decode cX6_keptBoughtAt 31 = .ok (.invokevirtual 177, 3) := by decide +kernel
theorem dX6_keptBoughtAt_34 : decode cX6_keptBoughtAt 34 = .ok (.ifCond .eq 16, 3) := by decide +kernel
theorem dX6_keptBoughtAt_37 : decode cX6_keptBoughtAt 37 = .ok (.aload 4, 2) := by decide +kernel
theorem dX6_keptBoughtAt_39 : decode cX6_keptBoughtAt 39 = .ok (.getfield 291, 3) := by decide +kernel
theorem dX6_keptBoughtAt_42 : decode cX6_keptBoughtAt 42 = .ok (.iload_n 1, 1) := by decide +kernel
theorem dX6_keptBoughtAt_43 : decode cX6_keptBoughtAt 43 = .ok (.if_icmp .ne 7, 3) := by decide +kernel
theorem dX6_keptBoughtAt_46 : decode cX6_keptBoughtAt 46 = .ok (.iconst 1, 1) := by decide +kernel
theorem dX6_keptBoughtAt_47 : decode cX6_keptBoughtAt 47 = .ok (.goto 4, 3) := by decide +kernel
theorem dX6_keptBoughtAt_50 : decode cX6_keptBoughtAt 50 = .ok (.iconst 0, 1) := by decide +kernel
theorem dX6_keptBoughtAt_51 : decode cX6_keptBoughtAt 51 = .ok (.invokestatic 235, 3) := by decide +kernel
theorem dX6_keptBoughtAt_54 : decode cX6_keptBoughtAt 54 = .ok (.iadd, 1) := by decide +kernel
theorem dX6_keptBoughtAt_55 : decode cX6_keptBoughtAt 55 = .ok (.istore_n 2, 1) := by decide +kernel
theorem dX6_keptBoughtAt_56 : decode cX6_keptBoughtAt 56 = .ok (.iinc 3 1, 3) := by decide +kernel
theorem dX6_keptBoughtAt_59 : decode cX6_keptBoughtAt 59 = .ok (.goto (-55), 3) := by decide +kernel
theorem dX6_keptBoughtAt_62 : decode cX6_keptBoughtAt 62 = .ok (.iload_n 2, 1) := by decide +kernel
theorem dX6_keptBoughtAt_63 : decode cX6_keptBoughtAt 63 = .ok (.ireturn, 1) := by decide +kernel
set_option maxRecDepth 20000 in
theorem ggX6_keptSeenAt_Jx4a65c_size_8abf5 : GoodIn wsX6_keptSeenAt wsJx4a65c_size_8abf5 := goodIn_r _ [7, 8, 52, 53, 54] (by decide +kernel) (by decide +kernel)
set_option maxRecDepth 20000 in
theorem gX6_keptSeenAt_Jx4a65c_size_8abf5 : GoodIn wsX6_keptSeenAt (wsV RX6 47 RJx4a65c yJx4a65c_size_8abf5 wsJx4a65c_size_8abf5) := goodIn_app (goodIn_of _ (by decide +kernel)) ggX6_keptSeenAt_Jx4a65c_size_8abf5
set_option maxRecDepth 20000 in
theorem ggX6_keptSeenAt_Jx4a65c_get_915e3 : GoodIn wsX6_keptSeenAt wsJx4a65c_get_915e3 := goodIn_r _ [12, 8, 13, 14, 15, 16, 17, 18, 19, 20, 21, 22, 23, 6, 24, 25, 52, 53, 54] (by decide +kernel) (by decide +kernel)
set_option maxRecDepth 20000 in
theorem gX6_keptSeenAt_Jx4a65c_get_915e3 : GoodIn wsX6_keptSeenAt (wsV RX6 122 RJx4a65c yJx4a65c_get_915e3 wsJx4a65c_get_915e3) := goodIn_app (goodIn_of _ (by decide +kernel)) ggX6_keptSeenAt_Jx4a65c_get_915e3
set_option maxRecDepth 20000 in
theorem ggX6_keptSeenAt_X1_isKept : GoodIn wsX6_keptSeenAt wsX1_isKept := goodIn_r _ [30, 31, 55, 56, 57, 58, 59, 60, 61, 62, 63] (by decide +kernel) (by decide +kernel)
set_option maxRecDepth 20000 in
theorem gX6_keptSeenAt_X1_isKept : GoodIn wsX6_keptSeenAt (wsV RX6 177 RX1 yX1_isKept wsX1_isKept) := goodIn_app (goodIn_of _ (by decide +kernel)) ggX6_keptSeenAt_X1_isKept
set_option maxRecDepth 20000 in
theorem ggX6_keptSeenAt_X0_isSeenAt : GoodIn wsX6_keptSeenAt wsX0_isSeenAt := goodIn_r _ [37, 38, 55, 56, 57, 58, 59, 60, 61, 62, 63, 64, 65, 66, 67, 68, 69, 70, 71] (by decide +kernel) (by decide +kernel)
set_option maxRecDepth 20000 in
theorem gX6_keptSeenAt_X0_isSeenAt_u428X1 : GoodIn wsX6_keptSeenAt (va_wsU RX6 428 RX1 "Tureenlist$Deed" ⟨"Tureenlist$Gift", "isSeenAt", "(I)Z"⟩ yX0_isSeenAt wsX0_isSeenAt) := goodIn_app (goodIn_of _ (by decide +kernel)) ggX6_keptSeenAt_X0_isSeenAt
set_option maxRecDepth 20000 in
theorem ggX6_keptSeenAt_X6_oneIf : GoodIn wsX6_keptSeenAt wsX6_oneIf := goodIn_r _ [42] (by decide +kernel) (by decide +kernel)
set_option maxRecDepth 20000 in
theorem gX6_keptSeenAt_X6_oneIf : GoodIn wsX6_keptSeenAt (va_wsS RX6 235 yX6_oneIf wsX6_oneIf) := goodIn_app (goodIn_of _ (by decide +kernel)) ggX6_keptSeenAt_X6_oneIf
theorem dX6_keptSeenAt_0 : decode cX6_keptSeenAt 0 = .ok (.iconst 0, 1) := by decide +kernel
theorem dX6_keptSeenAt_1 : decode cX6_keptSeenAt 1 = .ok (.istore_n 2, 1) := by decide +kernel
theorem dX6_keptSeenAt_2 : decode cX6_keptSeenAt 2 = .ok (.iconst 0, 1) := by decide +kernel
theorem dX6_keptSeenAt_3 : decode cX6_keptSeenAt 3 = .ok (.istore_n 3, 1) := by decide +kernel
theorem dX6_keptSeenAt_4 : decode cX6_keptSeenAt 4 = .ok (.iload_n 3, 1) := by decide +kernel
theorem dX6_keptSeenAt_5 : decode cX6_keptSeenAt 5 = .ok (.aload_n 0, 1) := by decide +kernel
theorem dX6_keptSeenAt_6 : decode cX6_keptSeenAt 6 = .ok (.getfield 19, 3) := by decide +kernel
theorem dX6_keptSeenAt_9 : decode cX6_keptSeenAt 9 = .ok (.invokevirtual 47, 3) := by decide +kernel
theorem dX6_keptSeenAt_12 : decode cX6_keptSeenAt 12 = .ok (.if_icmp .ge 50, 3) := by decide +kernel
theorem dX6_keptSeenAt_15 : decode cX6_keptSeenAt 15 = .ok (.aload_n 0, 1) := by decide +kernel
theorem dX6_keptSeenAt_16 : decode cX6_keptSeenAt 16 = .ok (.getfield 19, 3) := by decide +kernel
theorem dX6_keptSeenAt_19 : decode cX6_keptSeenAt 19 = .ok (.iload_n 3, 1) := by decide +kernel
theorem dX6_keptSeenAt_20 : decode cX6_keptSeenAt 20 = .ok (.invokevirtual 122, 3) := by decide +kernel
theorem dX6_keptSeenAt_23 : decode cX6_keptSeenAt 23 = .ok (.checkcast 171, 3) := by decide +kernel
theorem dX6_keptSeenAt_26 : decode cX6_keptSeenAt 26 = .ok (.astore 4, 2) := by decide +kernel
theorem dX6_keptSeenAt_28 : decode cX6_keptSeenAt 28 = .ok (.iload_n 2, 1) := by decide +kernel
theorem dX6_keptSeenAt_29 : decode cX6_keptSeenAt 29 = .ok (.aload 4, 2) := by decide +kernel
theorem dX6_keptSeenAt_31 : decode cX6_keptSeenAt 31 = .ok (.invokevirtual 177, 3) := by decide +kernel
theorem dX6_keptSeenAt_34 : decode cX6_keptSeenAt 34 = .ok (.ifCond .eq 16, 3) := by decide +kernel
theorem dX6_keptSeenAt_37 : decode cX6_keptSeenAt 37 = .ok (.aload 4, 2) := by decide +kernel
theorem dX6_keptSeenAt_39 : decode cX6_keptSeenAt 39 = .ok (.iload_n 1, 1) := by decide +kernel
theorem dX6_keptSeenAt_40 : decode cX6_keptSeenAt 40 = .ok (.invokevirtual 428, 3) := by decide +kernel
theorem dX6_keptSeenAt_43 : decode cX6_keptSeenAt 43 = .ok (.ifCond .eq 7, 3) := by decide +kernel
theorem dX6_keptSeenAt_46 : decode cX6_keptSeenAt 46 = .ok (.iconst 1, 1) := by decide +kernel
theorem dX6_keptSeenAt_47 : decode cX6_keptSeenAt 47 = .ok (.goto 4, 3) := by decide +kernel
theorem dX6_keptSeenAt_50 : decode cX6_keptSeenAt 50 = .ok (.iconst 0, 1) := by decide +kernel
theorem dX6_keptSeenAt_51 : decode cX6_keptSeenAt 51 = .ok (.invokestatic 235, 3) := by decide +kernel
theorem dX6_keptSeenAt_54 : decode cX6_keptSeenAt 54 = .ok (.iadd, 1) := by decide +kernel
theorem dX6_keptSeenAt_55 : decode cX6_keptSeenAt 55 = .ok (.istore_n 2, 1) := by decide +kernel
theorem dX6_keptSeenAt_56 : decode cX6_keptSeenAt 56 = .ok (.iinc 3 1, 3) := by decide +kernel
theorem dX6_keptSeenAt_59 : decode cX6_keptSeenAt 59 = .ok (.goto (-55), 3) := by decide +kernel
theorem dX6_keptSeenAt_62 : decode cX6_keptSeenAt 62 = .ok (.iload_n 2, 1) := by decide +kernel
theorem dX6_keptSeenAt_63 : decode cX6_keptSeenAt 63 = .ok (.ireturn, 1) := by decide +kernel
set_option maxRecDepth 20000 in
theorem ggX6_holdsStanding_Jx4a65c_size_8abf5 : GoodIn wsX6_holdsStanding wsJx4a65c_size_8abf5 := goodIn_r _ [8, 9, 52, 53, 54] (by decide +kernel) (by decide +kernel)
set_option maxRecDepth 20000 in
theorem gX6_holdsStanding_Jx4a65c_size_8abf5 : GoodIn wsX6_holdsStanding (wsV RX6 47 RJx4a65c yJx4a65c_size_8abf5 wsJx4a65c_size_8abf5) := goodIn_app (goodIn_of _ (by decide +kernel)) ggX6_holdsStanding_Jx4a65c_size_8abf5
set_option maxRecDepth 20000 in
theorem ggX6_holdsStanding_Jx4a65c_get_915e3 : GoodIn wsX6_holdsStanding wsJx4a65c_get_915e3 := goodIn_r _ [13, 9, 14, 15, 16, 17, 18, 19, 20, 21, 22, 23, 24, 7, 25, 26, 52, 53, 54] (by decide +kernel) (by decide +kernel)
set_option maxRecDepth 20000 in
theorem gX6_holdsStanding_Jx4a65c_get_915e3 : GoodIn wsX6_holdsStanding (wsV RX6 122 RJx4a65c yJx4a65c_get_915e3 wsJx4a65c_get_915e3) := goodIn_app (goodIn_of _ (by decide +kernel)) ggX6_holdsStanding_Jx4a65c_get_915e3
set_option maxRecDepth 20000 in
theorem ggX6_holdsStanding_X3_standsAt : GoodIn wsX6_holdsStanding wsX3_standsAt := goodIn_r _ [31, 32, 33, 34, 35, 36, 37, 38, 55, 56, 57, 58, 59, 60, 61, 62, 63, 64, 65, 66, 67, 68, 69, 70, 71, 72, 73, 74, 75, 76, 77, 78] (by decide +kernel) (by decide +kernel)
set_option maxRecDepth 20000 in
theorem gX6_holdsStanding_X3_standsAt : GoodIn wsX6_holdsStanding (wsV RX6 435 RX3 yX3_standsAt wsX3_standsAt) := goodIn_app (goodIn_of _ (by decide +kernel)) ggX6_holdsStanding_X3_standsAt
set_option maxRecDepth 20000 in
theorem ggX6_holdsStanding_X6_oneIf : GoodIn wsX6_holdsStanding wsX6_oneIf := goodIn_r _ [42] (by decide +kernel) (by decide +kernel)
set_option maxRecDepth 20000 in
theorem gX6_holdsStanding_X6_oneIf : GoodIn wsX6_holdsStanding (va_wsS RX6 235 yX6_oneIf wsX6_oneIf) := goodIn_app (goodIn_of _ (by decide +kernel)) ggX6_holdsStanding_X6_oneIf
theorem dX6_holdsStanding_0 : decode cX6_holdsStanding 0 = .ok (.iconst 0, 1) := by decide +kernel
theorem dX6_holdsStanding_1 : decode cX6_holdsStanding 1 = .ok (.istore_n 1, 1) := by decide +kernel
theorem dX6_holdsStanding_2 : decode cX6_holdsStanding 2 = .ok (.iconst 0, 1) := by decide +kernel
theorem dX6_holdsStanding_3 : decode cX6_holdsStanding 3 = .ok (.istore_n 2, 1) := by decide +kernel
theorem dX6_holdsStanding_4 : decode cX6_holdsStanding 4 = .ok (.iload_n 2, 1) := by decide +kernel
theorem dX6_holdsStanding_5 : decode cX6_holdsStanding 5 = .ok (.aload_n 0, 1) := by decide +kernel
theorem dX6_holdsStanding_6 : decode cX6_holdsStanding 6 = .ok (.getfield 22, 3) := by decide +kernel
theorem dX6_holdsStanding_9 : decode cX6_holdsStanding 9 = .ok (.invokevirtual 47, 3) := by decide +kernel
theorem dX6_holdsStanding_12 : decode cX6_holdsStanding 12 = .ok (.if_icmp .ge 33, 3) := by decide +kernel
theorem dX6_holdsStanding_15 : decode cX6_holdsStanding 15 = .ok (.iload_n 1, 1) := by decide +kernel
theorem dX6_holdsStanding_16 : decode cX6_holdsStanding 16 = .ok (.aload_n 0, 1) := by decide +kernel
theorem dX6_holdsStanding_17 : decode cX6_holdsStanding 17 = .ok (.getfield 22, 3) := by decide +kernel
theorem dX6_holdsStanding_20 : decode cX6_holdsStanding 20 = .ok (.iload_n 2, 1) := by decide +kernel
theorem dX6_holdsStanding_21 : decode cX6_holdsStanding 21 = .ok (.invokevirtual 122, 3) := by decide +kernel
theorem dX6_holdsStanding_24 : decode cX6_holdsStanding 24 = .ok (.checkcast 143, 3) := by decide +kernel
theorem dX6_holdsStanding_27 : decode cX6_holdsStanding 27 = .ok (.aload_n 0, 1) := by decide +kernel
theorem dX6_holdsStanding_28 : decode cX6_holdsStanding 28 = .ok (.getfield 145, 3) := by decide +kernel
theorem dX6_holdsStanding_31 : decode cX6_holdsStanding 31 = .ok (.invokevirtual 435, 3) := by decide +kernel
theorem dX6_holdsStanding_34 : decode cX6_holdsStanding 34 = .ok (.invokestatic 235, 3) := by decide +kernel
theorem dX6_holdsStanding_37 : decode cX6_holdsStanding 37 = .ok (.iadd, 1) := by decide +kernel
theorem dX6_holdsStanding_38 : decode cX6_holdsStanding 38 = .ok (.istore_n 1, 1) := by decide +kernel
theorem dX6_holdsStanding_39 : decode cX6_holdsStanding 39 = .ok (.iinc 2 1, 3) := by decide +kernel
theorem dX6_holdsStanding_42 : decode cX6_holdsStanding 42 = .ok (.goto (-38), 3) := by decide +kernel
theorem dX6_holdsStanding_45 : decode cX6_holdsStanding 45 = .ok (.iload_n 1, 1) := by decide +kernel
theorem dX6_holdsStanding_46 : decode cX6_holdsStanding 46 = .ok (.ireturn, 1) := by decide +kernel
set_option maxRecDepth 20000 in
theorem ggX6_holdsStandingOf_Jx4a65c_size_8abf5 : GoodIn wsX6_holdsStandingOf wsJx4a65c_size_8abf5 := goodIn_r _ [10, 11, 71, 72, 73] (by decide +kernel) (by decide +kernel)
set_option maxRecDepth 20000 in
theorem gX6_holdsStandingOf_Jx4a65c_size_8abf5 : GoodIn wsX6_holdsStandingOf (wsV RX6 47 RJx4a65c yJx4a65c_size_8abf5 wsJx4a65c_size_8abf5) := goodIn_app (goodIn_of _ (by decide +kernel)) ggX6_holdsStandingOf_Jx4a65c_size_8abf5
set_option maxRecDepth 20000 in
theorem ggX6_holdsStandingOf_Jx4a65c_get_915e3 : GoodIn wsX6_holdsStandingOf wsJx4a65c_get_915e3 := goodIn_r _ [15, 11, 16, 17, 18, 19, 20, 21, 22, 23, 24, 25, 26, 9, 27, 28, 71, 72, 73] (by decide +kernel) (by decide +kernel)
set_option maxRecDepth 20000 in
theorem gX6_holdsStandingOf_Jx4a65c_get_915e3 : GoodIn wsX6_holdsStandingOf (wsV RX6 122 RJx4a65c yJx4a65c_get_915e3 wsJx4a65c_get_915e3) := goodIn_app (goodIn_of _ (by decide +kernel)) ggX6_holdsStandingOf_Jx4a65c_get_915e3
set_option maxRecDepth 20000 in
theorem ggX6_holdsStandingOf_X3_standsAt : GoodIn wsX6_holdsStandingOf wsX3_standsAt := goodIn_r _ [33, 34, 35, 36, 37, 38, 39, 40, 63, 64, 65, 66, 67, 68, 69, 70, 54, 55, 56, 57, 58, 59, 60, 61, 62, 74, 75, 76, 77, 78, 79, 80] (by decide +kernel) (by decide +kernel)
set_option maxRecDepth 20000 in
theorem gX6_holdsStandingOf_X3_standsAt : GoodIn wsX6_holdsStandingOf (wsV RX6 435 RX3 yX3_standsAt wsX3_standsAt) := goodIn_app (goodIn_of _ (by decide +kernel)) ggX6_holdsStandingOf_X3_standsAt
set_option maxRecDepth 20000 in
theorem ggX6_holdsStandingOf_X6_oneIf : GoodIn wsX6_holdsStandingOf wsX6_oneIf := goodIn_r _ [44] (by decide +kernel) (by decide +kernel)
set_option maxRecDepth 20000 in
theorem gX6_holdsStandingOf_X6_oneIf : GoodIn wsX6_holdsStandingOf (va_wsS RX6 235 yX6_oneIf wsX6_oneIf) := goodIn_app (goodIn_of _ (by decide +kernel)) ggX6_holdsStandingOf_X6_oneIf
theorem dX6_holdsStandingOf_0 : decode cX6_holdsStandingOf 0 = .ok (.iconst 0, 1) := by decide +kernel
theorem dX6_holdsStandingOf_1 : decode cX6_holdsStandingOf 1 = .ok (.istore_n 2, 1) := by decide +kernel
theorem dX6_holdsStandingOf_2 : decode cX6_holdsStandingOf 2 = .ok (.iconst 0, 1) := by decide +kernel
theorem dX6_holdsStandingOf_3 : decode cX6_holdsStandingOf 3 = .ok (.istore_n 3, 1) := by decide +kernel
theorem dX6_holdsStandingOf_4 : decode cX6_holdsStandingOf 4 = .ok (.iload_n 3, 1) := by decide +kernel
theorem dX6_holdsStandingOf_5 : decode cX6_holdsStandingOf 5 = .ok (.aload_n 0, 1) := by decide +kernel
theorem dX6_holdsStandingOf_6 : decode cX6_holdsStandingOf 6 = .ok (.getfield 22, 3) := by decide +kernel
theorem dX6_holdsStandingOf_9 : decode cX6_holdsStandingOf 9 = .ok (.invokevirtual 47, 3) := by decide +kernel
theorem dX6_holdsStandingOf_12 : decode cX6_holdsStandingOf 12 = .ok (.if_icmp .ge 54, 3) := by decide +kernel
theorem dX6_holdsStandingOf_15 : decode cX6_holdsStandingOf 15 = .ok (.aload_n 0, 1) := by decide +kernel
theorem dX6_holdsStandingOf_16 : decode cX6_holdsStandingOf 16 = .ok (.getfield 22, 3) := by decide +kernel
theorem dX6_holdsStandingOf_19 : decode cX6_holdsStandingOf 19 = .ok (.iload_n 3, 1) := by decide +kernel
theorem dX6_holdsStandingOf_20 : decode cX6_holdsStandingOf 20 = .ok (.invokevirtual 122, 3) := by decide +kernel
theorem dX6_holdsStandingOf_23 : decode cX6_holdsStandingOf 23 = .ok (.checkcast 143, 3) := by decide +kernel
theorem dX6_holdsStandingOf_26 : decode cX6_holdsStandingOf 26 = .ok (.astore 4, 2) := by decide +kernel
theorem dX6_holdsStandingOf_28 : decode cX6_holdsStandingOf 28 = .ok (.iload_n 2, 1) := by decide +kernel
theorem dX6_holdsStandingOf_29 : decode cX6_holdsStandingOf 29 = .ok (.aload 4, 2) := by decide +kernel
theorem dX6_holdsStandingOf_31 : decode cX6_holdsStandingOf 31 = .ok (.getfield 448, 3) := by decide +kernel
theorem dX6_holdsStandingOf_34 : decode cX6_holdsStandingOf 34 = .ok (.aload_n 1, 1) := by decide +kernel
theorem dX6_holdsStandingOf_35 : decode cX6_holdsStandingOf 35 = .ok (.if_acmp .ne 19, 3) := by decide +kernel
theorem dX6_holdsStandingOf_38 : decode cX6_holdsStandingOf 38 = .ok (.aload 4, 2) := by decide +kernel
theorem dX6_holdsStandingOf_40 : decode cX6_holdsStandingOf 40 = .ok (.aload_n 0, 1) := by decide +kernel
theorem dX6_holdsStandingOf_41 : decode cX6_holdsStandingOf 41 = .ok (.getfield 145, 3) := by decide +kernel
theorem dX6_holdsStandingOf_44 : decode cX6_holdsStandingOf 44 = .ok (.invokevirtual 435, 3) := by decide +kernel
theorem dX6_holdsStandingOf_47 : decode cX6_holdsStandingOf 47 = .ok (.ifCond .eq 7, 3) := by decide +kernel
theorem dX6_holdsStandingOf_50 : decode cX6_holdsStandingOf 50 = .ok (.iconst 1, 1) := by decide +kernel
theorem dX6_holdsStandingOf_51 : decode cX6_holdsStandingOf 51 = .ok (.goto 4, 3) := by decide +kernel
theorem dX6_holdsStandingOf_54 : decode cX6_holdsStandingOf 54 = .ok (.iconst 0, 1) := by decide +kernel
theorem dX6_holdsStandingOf_55 : decode cX6_holdsStandingOf 55 = .ok (.invokestatic 235, 3) := by decide +kernel
theorem dX6_holdsStandingOf_58 : decode cX6_holdsStandingOf 58 = .ok (.iadd, 1) := by decide +kernel
theorem dX6_holdsStandingOf_59 : decode cX6_holdsStandingOf 59 = .ok (.istore_n 2, 1) := by decide +kernel
theorem dX6_holdsStandingOf_60 : decode cX6_holdsStandingOf 60 = .ok (.iinc 3 1, 3) := by decide +kernel
theorem dX6_holdsStandingOf_63 : decode cX6_holdsStandingOf 63 = .ok (.goto (-59), 3) := by decide +kernel
theorem dX6_holdsStandingOf_66 : decode cX6_holdsStandingOf 66 = .ok (.iload_n 2, 1) := by decide +kernel
theorem dX6_holdsStandingOf_67 : decode cX6_holdsStandingOf 67 = .ok (.ireturn, 1) := by decide +kernel
set_option maxRecDepth 20000 in
theorem ggX6_holdsStandingSeenAt_Jx4a65c_size_8abf5 : GoodIn wsX6_holdsStandingSeenAt wsJx4a65c_size_8abf5 := goodIn_r _ [8, 9, 59, 60, 61] (by decide +kernel) (by decide +kernel)
set_option maxRecDepth 20000 in
theorem gX6_holdsStandingSeenAt_Jx4a65c_size_8abf5 : GoodIn wsX6_holdsStandingSeenAt (wsV RX6 47 RJx4a65c yJx4a65c_size_8abf5 wsJx4a65c_size_8abf5) := goodIn_app (goodIn_of _ (by decide +kernel)) ggX6_holdsStandingSeenAt_Jx4a65c_size_8abf5
set_option maxRecDepth 20000 in
theorem ggX6_holdsStandingSeenAt_Jx4a65c_get_915e3 : GoodIn wsX6_holdsStandingSeenAt wsJx4a65c_get_915e3 := goodIn_r _ [13, 9, 14, 15, 16, 17, 18, 19, 20, 21, 22, 23, 24, 7, 25, 26, 59, 60, 61] (by decide +kernel) (by decide +kernel)
set_option maxRecDepth 20000 in
theorem gX6_holdsStandingSeenAt_Jx4a65c_get_915e3 : GoodIn wsX6_holdsStandingSeenAt (wsV RX6 122 RJx4a65c yJx4a65c_get_915e3 wsJx4a65c_get_915e3) := goodIn_app (goodIn_of _ (by decide +kernel)) ggX6_holdsStandingSeenAt_Jx4a65c_get_915e3
set_option maxRecDepth 20000 in
theorem ggX6_holdsStandingSeenAt_X3_standsAt : GoodIn wsX6_holdsStandingSeenAt wsX3_standsAt := goodIn_r _ [31, 32, 33, 34, 35, 36, 37, 38, 62, 63, 64, 65, 66, 67, 68, 69, 70, 71, 72, 73, 74, 75, 76, 77, 78, 79, 80, 81, 82, 83, 84, 85] (by decide +kernel) (by decide +kernel)
set_option maxRecDepth 20000 in
theorem gX6_holdsStandingSeenAt_X3_standsAt : GoodIn wsX6_holdsStandingSeenAt (wsV RX6 435 RX3 yX3_standsAt wsX3_standsAt) := goodIn_app (goodIn_of _ (by decide +kernel)) ggX6_holdsStandingSeenAt_X3_standsAt
set_option maxRecDepth 20000 in
theorem ggX6_holdsStandingSeenAt_X0_isSeenAt : GoodIn wsX6_holdsStandingSeenAt wsX0_isSeenAt := goodIn_r _ [44, 45, 70, 71, 72, 73, 74, 75, 76, 77, 78, 62, 63, 64, 65, 66, 67, 68, 69] (by decide +kernel) (by decide +kernel)
set_option maxRecDepth 20000 in
theorem gX6_holdsStandingSeenAt_X0_isSeenAt_u438X3 : GoodIn wsX6_holdsStandingSeenAt (va_wsU RX6 438 RX3 "Tureenlist$Deed" ⟨"Tureenlist$Hold", "isSeenAt", "(I)Z"⟩ yX0_isSeenAt wsX0_isSeenAt) := goodIn_app (goodIn_of _ (by decide +kernel)) ggX6_holdsStandingSeenAt_X0_isSeenAt
set_option maxRecDepth 20000 in
theorem ggX6_holdsStandingSeenAt_X6_oneIf : GoodIn wsX6_holdsStandingSeenAt wsX6_oneIf := goodIn_r _ [49] (by decide +kernel) (by decide +kernel)
set_option maxRecDepth 20000 in
theorem gX6_holdsStandingSeenAt_X6_oneIf : GoodIn wsX6_holdsStandingSeenAt (va_wsS RX6 235 yX6_oneIf wsX6_oneIf) := goodIn_app (goodIn_of _ (by decide +kernel)) ggX6_holdsStandingSeenAt_X6_oneIf
theorem dX6_holdsStandingSeenAt_0 : decode cX6_holdsStandingSeenAt 0 = .ok (.iconst 0, 1) := by decide +kernel
theorem dX6_holdsStandingSeenAt_1 : decode cX6_holdsStandingSeenAt 1 = .ok (.istore_n 2, 1) := by decide +kernel
theorem dX6_holdsStandingSeenAt_2 : decode cX6_holdsStandingSeenAt 2 = .ok (.iconst 0, 1) := by decide +kernel
theorem dX6_holdsStandingSeenAt_3 : decode cX6_holdsStandingSeenAt 3 = .ok (.istore_n 3, 1) := by decide +kernel
theorem dX6_holdsStandingSeenAt_4 : decode cX6_holdsStandingSeenAt 4 = .ok (.iload_n 3, 1) := by decide +kernel
theorem dX6_holdsStandingSeenAt_5 : decode cX6_holdsStandingSeenAt 5 = .ok (.aload_n 0, 1) := by decide +kernel
theorem dX6_holdsStandingSeenAt_6 : decode cX6_holdsStandingSeenAt 6 = .ok (.getfield 22, 3) := by decide +kernel
theorem dX6_holdsStandingSeenAt_9 : decode cX6_holdsStandingSeenAt 9 = .ok (.invokevirtual 47, 3) := by decide +kernel
theorem dX6_holdsStandingSeenAt_12 : decode cX6_holdsStandingSeenAt 12 = .ok (.if_icmp .ge 54, 3) := by decide +kernel
theorem dX6_holdsStandingSeenAt_15 : decode cX6_holdsStandingSeenAt 15 = .ok (.aload_n 0, 1) := by decide +kernel
theorem dX6_holdsStandingSeenAt_16 : decode cX6_holdsStandingSeenAt 16 = .ok (.getfield 22, 3) := by decide +kernel
theorem dX6_holdsStandingSeenAt_19 : decode cX6_holdsStandingSeenAt 19 = .ok (.iload_n 3, 1) := by decide +kernel
theorem dX6_holdsStandingSeenAt_20 : decode cX6_holdsStandingSeenAt 20 = .ok (.invokevirtual 122, 3) := by decide +kernel
theorem dX6_holdsStandingSeenAt_23 : decode cX6_holdsStandingSeenAt 23 = .ok (.checkcast 143, 3) := by decide +kernel
theorem dX6_holdsStandingSeenAt_26 : decode cX6_holdsStandingSeenAt 26 = .ok (.astore 4, 2) := by decide +kernel
theorem dX6_holdsStandingSeenAt_28 : decode cX6_holdsStandingSeenAt 28 = .ok (.iload_n 2, 1) := by decide +kernel
theorem dX6_holdsStandingSeenAt_29 : decode cX6_holdsStandingSeenAt 29 = .ok (.aload 4, 2) := by decide +kernel
theorem dX6_holdsStandingSeenAt_31 : decode cX6_holdsStandingSeenAt 31 = .ok (.aload_n 0, 1) := by decide +kernel
theorem dX6_holdsStandingSeenAt_32 : decode cX6_holdsStandingSeenAt 32 = .ok (.getfield 145, 3) := by decide +kernel
theorem dX6_holdsStandingSeenAt_35 : decode cX6_holdsStandingSeenAt 35 = .ok (.invokevirtual 435, 3) := by decide +kernel
theorem dX6_holdsStandingSeenAt_38 : decode cX6_holdsStandingSeenAt 38 = .ok (.ifCond .eq 16, 3) := by decide +kernel
theorem dX6_holdsStandingSeenAt_41 : decode cX6_holdsStandingSeenAt 41 = .ok (.aload 4, 2) := by decide +kernel
theorem dX6_holdsStandingSeenAt_43 : decode cX6_holdsStandingSeenAt 43 = .ok (.iload_n 1, 1) := by decide +kernel
theorem dX6_holdsStandingSeenAt_44 : decode cX6_holdsStandingSeenAt 44 = .ok (.invokevirtual 438, 3) := by decide +kernel
theorem dX6_holdsStandingSeenAt_47 : decode cX6_holdsStandingSeenAt 47 = .ok (.ifCond .eq 7, 3) := by decide +kernel
theorem dX6_holdsStandingSeenAt_50 : decode cX6_holdsStandingSeenAt 50 = .ok (.iconst 1, 1) := by decide +kernel
theorem dX6_holdsStandingSeenAt_51 : decode cX6_holdsStandingSeenAt 51 = .ok (.goto 4, 3) := by decide +kernel
theorem dX6_holdsStandingSeenAt_54 : decode cX6_holdsStandingSeenAt 54 = .ok (.iconst 0, 1) := by decide +kernel
theorem dX6_holdsStandingSeenAt_55 : decode cX6_holdsStandingSeenAt 55 = .ok (.invokestatic 235, 3) := by decide +kernel
theorem dX6_holdsStandingSeenAt_58 : decode cX6_holdsStandingSeenAt 58 = .ok (.iadd, 1) := by decide +kernel
theorem dX6_holdsStandingSeenAt_59 : decode cX6_holdsStandingSeenAt 59 = .ok (.istore_n 2, 1) := by decide +kernel
theorem dX6_holdsStandingSeenAt_60 : decode cX6_holdsStandingSeenAt 60 = .ok (.iinc 3 1, 3) := by decide +kernel
theorem dX6_holdsStandingSeenAt_63 : decode cX6_holdsStandingSeenAt 63 = .ok (.goto (-59), 3) := by decide +kernel
theorem dX6_holdsStandingSeenAt_66 : decode cX6_holdsStandingSeenAt 66 = .ok (.iload_n 2, 1) := by decide +kernel
theorem dX6_holdsStandingSeenAt_67 : decode cX6_holdsStandingSeenAt 67 = .ok (.ireturn, 1) := by decide +kernel
set_option maxRecDepth 20000 in
theorem ggX6_paidForKeptBy_Jx4a65c_size_8abf5 : GoodIn wsX6_paidForKeptBy wsJx4a65c_size_8abf5 := goodIn_r _ [10, 11, 61, 62, 63] (by decide +kernel) (by decide +kernel)
set_option maxRecDepth 20000 in
theorem gX6_paidForKeptBy_Jx4a65c_size_8abf5 : GoodIn wsX6_paidForKeptBy (wsV RX6 47 RJx4a65c yJx4a65c_size_8abf5 wsJx4a65c_size_8abf5) := goodIn_app (goodIn_of _ (by decide +kernel)) ggX6_paidForKeptBy_Jx4a65c_size_8abf5
set_option maxRecDepth 20000 in
theorem ggX6_paidForKeptBy_Jx4a65c_get_915e3 : GoodIn wsX6_paidForKeptBy wsJx4a65c_get_915e3 := goodIn_r _ [15, 11, 16, 17, 18, 19, 20, 21, 22, 23, 24, 25, 26, 9, 27, 28, 61, 62, 63] (by decide +kernel) (by decide +kernel)
set_option maxRecDepth 20000 in
theorem gX6_paidForKeptBy_Jx4a65c_get_915e3 : GoodIn wsX6_paidForKeptBy (wsV RX6 122 RJx4a65c yJx4a65c_get_915e3 wsJx4a65c_get_915e3) := goodIn_app (goodIn_of _ (by decide +kernel)) ggX6_paidForKeptBy_Jx4a65c_get_915e3
set_option maxRecDepth 20000 in
theorem ggX6_paidForKeptBy_X1_isKept : GoodIn wsX6_paidForKeptBy wsX1_isKept := goodIn_r _ [33, 34, 44, 45, 46, 47, 48, 49, 50, 51, 52] (by decide +kernel) (by decide +kernel)
set_option maxRecDepth 20000 in
theorem gX6_paidForKeptBy_X1_isKept : GoodIn wsX6_paidForKeptBy (wsV RX6 177 RX1 yX1_isKept wsX1_isKept) := goodIn_app (goodIn_of _ (by decide +kernel)) ggX6_paidForKeptBy_X1_isKept
theorem dX6_paidForKeptBy_0 : decode cX6_paidForKeptBy 0 = .ok (.iconst 0, 1) := by decide +kernel
theorem dX6_paidForKeptBy_1 : decode cX6_paidForKeptBy 1 = .ok (.istore_n 2, 1) := by decide +kernel
theorem dX6_paidForKeptBy_2 : decode cX6_paidForKeptBy 2 = .ok (.iconst 0, 1) := by decide +kernel
theorem dX6_paidForKeptBy_3 : decode cX6_paidForKeptBy 3 = .ok (.istore_n 3, 1) := by decide +kernel
theorem dX6_paidForKeptBy_4 : decode cX6_paidForKeptBy 4 = .ok (.iload_n 3, 1) := by decide +kernel
theorem dX6_paidForKeptBy_5 : decode cX6_paidForKeptBy 5 = .ok (.aload_n 0, 1) := by decide +kernel
theorem dX6_paidForKeptBy_6 : decode cX6_paidForKeptBy 6 = .ok (.getfield 19, 3) := by decide +kernel
theorem dX6_paidForKeptBy_9 : decode cX6_paidForKeptBy 9 = .ok (.invokevirtual 47, 3) := by decide +kernel
theorem dX6_paidForKeptBy_12 : decode cX6_paidForKeptBy 12 = .ok (.if_icmp .ge 47, 3) := by decide +kernel
theorem dX6_paidForKeptBy_15 : decode cX6_paidForKeptBy 15 = .ok (.aload_n 0, 1) := by decide +kernel
theorem dX6_paidForKeptBy_16 : decode cX6_paidForKeptBy 16 = .ok (.getfield 19, 3) := by decide +kernel
theorem dX6_paidForKeptBy_19 : decode cX6_paidForKeptBy 19 = .ok (.iload_n 3, 1) := by decide +kernel
theorem dX6_paidForKeptBy_20 : decode cX6_paidForKeptBy 20 = .ok (.invokevirtual 122, 3) := by decide +kernel
theorem dX6_paidForKeptBy_23 : decode cX6_paidForKeptBy 23 = .ok (.checkcast 171, 3) := by decide +kernel
theorem dX6_paidForKeptBy_26 : decode cX6_paidForKeptBy 26 = .ok (.astore 4, 2) := by decide +kernel
theorem dX6_paidForKeptBy_28 : decode cX6_paidForKeptBy 28 = .ok (.aload 4, 2) := by decide +kernel
theorem dX6_paidForKeptBy_30 : decode cX6_paidForKeptBy 30 = .ok (.invokevirtual 177, 3) := by decide +kernel
theorem dX6_paidForKeptBy_33 : decode cX6_paidForKeptBy 33 = .ok (.ifCond .eq 20, 3) := by decide +kernel
theorem dX6_paidForKeptBy_36 : decode cX6_paidForKeptBy 36 = .ok (.aload 4, 2) := by decide +kernel
theorem dX6_paidForKeptBy_38 : decode cX6_paidForKeptBy 38 = .ok (.getfield 181, 3) := by decide +kernel
theorem dX6_paidForKeptBy_41 : decode cX6_paidForKeptBy 41 = .ok (.aload_n 1, 1) := by decide +kernel
theorem dX6_paidForKeptBy_42 : decode cX6_paidForKeptBy 42 = .ok (.if_acmp .ne 11, 3) := by decide +kernel
theorem dX6_paidForKeptBy_45 : decode cX6_paidForKeptBy 45 = .ok (.iload_n 2, 1) := by decide +kernel
theorem dX6_paidForKeptBy_46 : decode cX6_paidForKeptBy 46 = .ok (.aload 4, 2) := by decide +kernel
theorem dX6_paidForKeptBy_48 : decode cX6_paidForKeptBy 48 = .ok (.getfield 294, 3) := by decide +kernel
theorem dX6_paidForKeptBy_51 : decode cX6_paidForKeptBy 51 = .ok (.iadd, 1) := by decide +kernel
theorem dX6_paidForKeptBy_52 : decode cX6_paidForKeptBy 52 = .ok (.istore_n 2, 1) := by decide +kernel
theorem dX6_paidForKeptBy_53 : decode cX6_paidForKeptBy 53 = .ok (.iinc 3 1, 3) := by decide +kernel
theorem dX6_paidForKeptBy_56 : decode cX6_paidForKeptBy 56 = .ok (.goto (-52), 3) := by decide +kernel
theorem dX6_paidForKeptBy_59 : decode cX6_paidForKeptBy 59 = .ok (.iload_n 2, 1) := by decide +kernel
theorem dX6_paidForKeptBy_60 : decode cX6_paidForKeptBy 60 = .ok (.ireturn, 1) := by decide +kernel
set_option maxRecDepth 20000 in
theorem ggX6_paidForKept_Jx4a65c_size_8abf5 : GoodIn wsX6_paidForKept wsJx4a65c_size_8abf5 := goodIn_r _ [7, 8, 51, 52, 53] (by decide +kernel) (by decide +kernel)
set_option maxRecDepth 20000 in
theorem gX6_paidForKept_Jx4a65c_size_8abf5 : GoodIn wsX6_paidForKept (wsV RX6 47 RJx4a65c yJx4a65c_size_8abf5 wsJx4a65c_size_8abf5) := goodIn_app (goodIn_of _ (by decide +kernel)) ggX6_paidForKept_Jx4a65c_size_8abf5
set_option maxRecDepth 20000 in
theorem ggX6_paidForKept_Jx4a65c_get_915e3 : GoodIn wsX6_paidForKept wsJx4a65c_get_915e3 := goodIn_r _ [12, 8, 13, 14, 15, 16, 17, 18, 19, 20, 21, 22, 23, 6, 24, 25, 51, 52, 53] (by decide +kernel) (by decide +kernel)
set_option maxRecDepth 20000 in
theorem gX6_paidForKept_Jx4a65c_get_915e3 : GoodIn wsX6_paidForKept (wsV RX6 122 RJx4a65c yJx4a65c_get_915e3 wsJx4a65c_get_915e3) := goodIn_app (goodIn_of _ (by decide +kernel)) ggX6_paidForKept_Jx4a65c_get_915e3
set_option maxRecDepth 20000 in
theorem ggX6_paidForKept_X6_paidForKeptBy : GoodIn wsX6_paidForKept wsX6_paidForKeptBy := goodIn_r _ [30, 31, 32, 33, 34, 35, 3, 4, 5, 6, 7, 8, 9, 10, 11, 12, 13, 14, 15, 16, 17, 18, 19, 20, 21, 22, 23, 24, 25, 36, 37, 38, 39, 40, 41, 42, 43, 44, 45, 46, 47, 48, 49, 50, 54, 55, 56, 57, 58, 59, 60, 61, 62, 63, 64, 65, 66, 67, 68, 69, 70, 51, 52, 53] (by decide +kernel) (by decide +kernel)
set_option maxRecDepth 20000 in
theorem gX6_paidForKept_X6_paidForKeptBy : GoodIn wsX6_paidForKept (wsV RX6 251 RX6 yX6_paidForKeptBy wsX6_paidForKeptBy) := goodIn_app (goodIn_of _ (by decide +kernel)) ggX6_paidForKept_X6_paidForKeptBy
theorem dX6_paidForKept_0 : decode cX6_paidForKept 0 = .ok (.iconst 0, 1) := by decide +kernel
theorem dX6_paidForKept_1 : decode cX6_paidForKept 1 = .ok (.istore_n 1, 1) := by decide +kernel
theorem dX6_paidForKept_2 : decode cX6_paidForKept 2 = .ok (.iconst 0, 1) := by decide +kernel
theorem dX6_paidForKept_3 : decode cX6_paidForKept 3 = .ok (.istore_n 2, 1) := by decide +kernel
theorem dX6_paidForKept_4 : decode cX6_paidForKept 4 = .ok (.iload_n 2, 1) := by decide +kernel
theorem dX6_paidForKept_5 : decode cX6_paidForKept 5 = .ok (.aload_n 0, 1) := by decide +kernel
theorem dX6_paidForKept_6 : decode cX6_paidForKept 6 = .ok (.getfield 16, 3) := by decide +kernel
theorem dX6_paidForKept_9 : decode cX6_paidForKept 9 = .ok (.invokevirtual 47, 3) := by decide +kernel
theorem dX6_paidForKept_12 : decode cX6_paidForKept 12 = .ok (.if_icmp .ge 27, 3) := by decide +kernel
theorem dX6_paidForKept_15 : decode cX6_paidForKept 15 = .ok (.iload_n 1, 1) := by decide +kernel
theorem dX6_paidForKept_16 : decode cX6_paidForKept 16 = .ok (.aload_n 0, 1) := by decide +kernel
theorem dX6_paidForKept_17 : decode cX6_paidForKept 17 = .ok (.aload_n 0, 1) := by decide +kernel
theorem dX6_paidForKept_18 : decode cX6_paidForKept 18 = .ok (.getfield 16, 3) := by decide +kernel
theorem dX6_paidForKept_21 : decode cX6_paidForKept 21 = .ok (.iload_n 2, 1) := by decide +kernel
theorem dX6_paidForKept_22 : decode cX6_paidForKept 22 = .ok (.invokevirtual 122, 3) := by decide +kernel
theorem dX6_paidForKept_25 : decode cX6_paidForKept 25 = .ok (.checkcast 69, 3) := by decide +kernel
theorem dX6_paidForKept_28 : decode cX6_paidForKept 28 = .ok (.invokevirtual 251, 3) := by decide +kernel
theorem dX6_paidForKept_31 : decode cX6_paidForKept 31 = .ok (.iadd, 1) := by decide +kernel
theorem dX6_paidForKept_32 : decode cX6_paidForKept 32 = .ok (.istore_n 1, 1) := by decide +kernel
theorem dX6_paidForKept_33 : decode cX6_paidForKept 33 = .ok (.iinc 2 1, 3) := by decide +kernel
theorem dX6_paidForKept_36 : decode cX6_paidForKept 36 = .ok (.goto (-32), 3) := by decide +kernel
theorem dX6_paidForKept_39 : decode cX6_paidForKept 39 = .ok (.iload_n 1, 1) := by decide +kernel
theorem dX6_paidForKept_40 : decode cX6_paidForKept 40 = .ok (.ireturn, 1) := by decide +kernel
set_option maxRecDepth 20000 in
theorem ggX6_pledgedBy_Jx4a65c_size_8abf5 : GoodIn wsX6_pledgedBy wsJx4a65c_size_8abf5 := goodIn_r _ [7, 8, 46, 47, 48] (by decide +kernel) (by decide +kernel)
set_option maxRecDepth 20000 in
theorem gX6_pledgedBy_Jx4a65c_size_8abf5 : GoodIn wsX6_pledgedBy (wsV RX6 47 RJx4a65c yJx4a65c_size_8abf5 wsJx4a65c_size_8abf5) := goodIn_app (goodIn_of _ (by decide +kernel)) ggX6_pledgedBy_Jx4a65c_size_8abf5
set_option maxRecDepth 20000 in
theorem ggX6_pledgedBy_Jx4a65c_get_915e3 : GoodIn wsX6_pledgedBy wsJx4a65c_get_915e3 := goodIn_r _ [12, 8, 13, 14, 15, 16, 17, 18, 19, 20, 21, 22, 23, 6, 24, 25, 46, 47, 48] (by decide +kernel) (by decide +kernel)
set_option maxRecDepth 20000 in
theorem gX6_pledgedBy_Jx4a65c_get_915e3 : GoodIn wsX6_pledgedBy (wsV RX6 122 RJx4a65c yJx4a65c_get_915e3 wsJx4a65c_get_915e3) := goodIn_app (goodIn_of _ (by decide +kernel)) ggX6_pledgedBy_Jx4a65c_get_915e3
set_option maxRecDepth 20000 in
theorem ggX6_pledgedBy_X5_pledgedBy : GoodIn wsX6_pledgedBy wsX5_pledgedBy := goodIn_r _ [30, 31, 32, 33, 34, 35, 4, 5, 6, 7, 8, 36, 10, 11, 12, 13, 14, 15, 16, 17, 18, 19, 20, 21, 22, 23, 24, 25, 49, 50, 51, 52, 53, 54, 55, 56, 57, 46, 47, 48] (by decide +kernel) (by decide +kernel)
set_option maxRecDepth 20000 in
theorem gX6_pledgedBy_X5_pledgedBy : GoodIn wsX6_pledgedBy (wsV RX6 324 RX5 yX5_pledgedBy wsX5_pledgedBy) := goodIn_app (goodIn_of _ (by decide +kernel)) ggX6_pledgedBy_X5_pledgedBy
theorem dX6_pledgedBy_0 : decode cX6_pledgedBy 0 = .ok (.iconst 0, 1) := by decide +kernel
theorem dX6_pledgedBy_1 : decode cX6_pledgedBy 1 = .ok (.istore_n 2, 1) := by decide +kernel
theorem dX6_pledgedBy_2 : decode cX6_pledgedBy 2 = .ok (.iconst 0, 1) := by decide +kernel
theorem dX6_pledgedBy_3 : decode cX6_pledgedBy 3 = .ok (.istore_n 3, 1) := by decide +kernel
theorem dX6_pledgedBy_4 : decode cX6_pledgedBy 4 = .ok (.iload_n 3, 1) := by decide +kernel
theorem dX6_pledgedBy_5 : decode cX6_pledgedBy 5 = .ok (.aload_n 0, 1) := by decide +kernel
theorem dX6_pledgedBy_6 : decode cX6_pledgedBy 6 = .ok (.getfield 12, 3) := by decide +kernel
theorem dX6_pledgedBy_9 : decode cX6_pledgedBy 9 = .ok (.invokevirtual 47, 3) := by decide +kernel
theorem dX6_pledgedBy_12 : decode cX6_pledgedBy 12 = .ok (.if_icmp .ge 27, 3) := by decide +kernel
theorem dX6_pledgedBy_15 : decode cX6_pledgedBy 15 = .ok (.iload_n 2, 1) := by decide +kernel
theorem dX6_pledgedBy_16 : decode cX6_pledgedBy 16 = .ok (.aload_n 0, 1) := by decide +kernel
theorem dX6_pledgedBy_17 : decode cX6_pledgedBy 17 = .ok (.getfield 12, 3) := by decide +kernel
theorem dX6_pledgedBy_20 : decode cX6_pledgedBy 20 = .ok (.iload_n 3, 1) := by decide +kernel
theorem dX6_pledgedBy_21 : decode cX6_pledgedBy 21 = .ok (.invokevirtual 122, 3) := by decide +kernel
theorem dX6_pledgedBy_24 : decode cX6_pledgedBy 24 = .ok (.checkcast 56, 3) := by decide +kernel
theorem dX6_pledgedBy_27 : decode cX6_pledgedBy 27 = .ok (.aload_n 1, 1) := by decide +kernel
theorem dX6_pledgedBy_28 : decode cX6_pledgedBy 28 = .ok (.invokevirtual 324, 3) := by decide +kernel
theorem dX6_pledgedBy_31 : decode cX6_pledgedBy 31 = .ok (.iadd, 1) := by decide +kernel
theorem dX6_pledgedBy_32 : decode cX6_pledgedBy 32 = .ok (.istore_n 2, 1) := by decide +kernel
theorem dX6_pledgedBy_33 : decode cX6_pledgedBy 33 = .ok (.iinc 3 1, 3) := by decide +kernel
theorem dX6_pledgedBy_36 : decode cX6_pledgedBy 36 = .ok (.goto (-32), 3) := by decide +kernel
theorem dX6_pledgedBy_39 : decode cX6_pledgedBy 39 = .ok (.iload_n 2, 1) := by decide +kernel
theorem dX6_pledgedBy_40 : decode cX6_pledgedBy 40 = .ok (.ireturn, 1) := by decide +kernel
set_option maxRecDepth 20000 in
theorem ggX6_pledgedNow_Jx4a65c_size_8abf5 : GoodIn wsX6_pledgedNow wsJx4a65c_size_8abf5 := goodIn_r _ [7, 8, 45, 46, 47] (by decide +kernel) (by decide +kernel)
set_option maxRecDepth 20000 in
theorem gX6_pledgedNow_Jx4a65c_size_8abf5 : GoodIn wsX6_pledgedNow (wsV RX6 47 RJx4a65c yJx4a65c_size_8abf5 wsJx4a65c_size_8abf5) := goodIn_app (goodIn_of _ (by decide +kernel)) ggX6_pledgedNow_Jx4a65c_size_8abf5
set_option maxRecDepth 20000 in
theorem ggX6_pledgedNow_Jx4a65c_get_915e3 : GoodIn wsX6_pledgedNow wsJx4a65c_get_915e3 := goodIn_r _ [12, 8, 13, 14, 15, 16, 17, 18, 19, 20, 21, 22, 23, 6, 24, 25, 45, 46, 47] (by decide +kernel) (by decide +kernel)
set_option maxRecDepth 20000 in
theorem gX6_pledgedNow_Jx4a65c_get_915e3 : GoodIn wsX6_pledgedNow (wsV RX6 122 RJx4a65c yJx4a65c_get_915e3 wsJx4a65c_get_915e3) := goodIn_app (goodIn_of _ (by decide +kernel)) ggX6_pledgedNow_Jx4a65c_get_915e3
set_option maxRecDepth 20000 in
theorem ggX6_pledgedNow_X5_pledged : GoodIn wsX6_pledgedNow wsX5_pledged := goodIn_r _ [30, 31, 32, 33, 34, 4, 5, 6, 7, 8, 35, 10, 11, 12, 13, 14, 15, 16, 17, 18, 19, 20, 21, 22, 23, 24, 25, 48, 49, 50, 51, 52, 53, 54, 55, 56, 45, 46, 47] (by decide +kernel) (by decide +kernel)
set_option maxRecDepth 20000 in
theorem gX6_pledgedNow_X5_pledged : GoodIn wsX6_pledgedNow (wsV RX6 91 RX5 yX5_pledged wsX5_pledged) := goodIn_app (goodIn_of _ (by decide +kernel)) ggX6_pledgedNow_X5_pledged
theorem dX6_pledgedNow_0 : decode cX6_pledgedNow 0 = .ok (.iconst 0, 1) := by decide +kernel
theorem dX6_pledgedNow_1 : decode cX6_pledgedNow 1 = .ok (.istore_n 1, 1) := by decide +kernel
theorem dX6_pledgedNow_2 : decode cX6_pledgedNow 2 = .ok (.iconst 0, 1) := by decide +kernel
theorem dX6_pledgedNow_3 : decode cX6_pledgedNow 3 = .ok (.istore_n 2, 1) := by decide +kernel
theorem dX6_pledgedNow_4 : decode cX6_pledgedNow 4 = .ok (.iload_n 2, 1) := by decide +kernel
theorem dX6_pledgedNow_5 : decode cX6_pledgedNow 5 = .ok (.aload_n 0, 1) := by decide +kernel
theorem dX6_pledgedNow_6 : decode cX6_pledgedNow 6 = .ok (.getfield 12, 3) := by decide +kernel
theorem dX6_pledgedNow_9 : decode cX6_pledgedNow 9 = .ok (.invokevirtual 47, 3) := by decide +kernel
theorem dX6_pledgedNow_12 : decode cX6_pledgedNow 12 = .ok (.if_icmp .ge 26, 3) := by decide +kernel
theorem dX6_pledgedNow_15 : decode cX6_pledgedNow 15 = .ok (.iload_n 1, 1) := by decide +kernel
theorem dX6_pledgedNow_16 : decode cX6_pledgedNow 16 = .ok (.aload_n 0, 1) := by decide +kernel
theorem dX6_pledgedNow_17 : decode cX6_pledgedNow 17 = .ok (.getfield 12, 3) := by decide +kernel
theorem dX6_pledgedNow_20 : decode cX6_pledgedNow 20 = .ok (.iload_n 2, 1) := by decide +kernel
theorem dX6_pledgedNow_21 : decode cX6_pledgedNow 21 = .ok (.invokevirtual 122, 3) := by decide +kernel
theorem dX6_pledgedNow_24 : decode cX6_pledgedNow 24 = .ok (.checkcast 56, 3) := by decide +kernel
theorem dX6_pledgedNow_27 : decode cX6_pledgedNow 27 = .ok (.invokevirtual 91, 3) := by decide +kernel
theorem dX6_pledgedNow_30 : decode cX6_pledgedNow 30 = .ok (.iadd, 1) := by decide +kernel
theorem dX6_pledgedNow_31 : decode cX6_pledgedNow 31 = .ok (.istore_n 1, 1) := by decide +kernel
theorem dX6_pledgedNow_32 : decode cX6_pledgedNow 32 = .ok (.iinc 2 1, 3) := by decide +kernel
theorem dX6_pledgedNow_35 : decode cX6_pledgedNow 35 = .ok (.goto (-31), 3) := by decide +kernel
theorem dX6_pledgedNow_38 : decode cX6_pledgedNow 38 = .ok (.iload_n 1, 1) := by decide +kernel
theorem dX6_pledgedNow_39 : decode cX6_pledgedNow 39 = .ok (.ireturn, 1) := by decide +kernel
set_option maxRecDepth 20000 in
theorem ggX6_noneTooManyIfAllJoined_Jx4a65c_size_8abf5 : GoodIn wsX6_noneTooManyIfAllJoined wsJx4a65c_size_8abf5 := goodIn_r _ [9, 10, 57, 58, 59] (by decide +kernel) (by decide +kernel)
set_option maxRecDepth 20000 in
theorem gX6_noneTooManyIfAllJoined_Jx4a65c_size_8abf5 : GoodIn wsX6_noneTooManyIfAllJoined (wsV RX6 47 RJx4a65c yJx4a65c_size_8abf5 wsJx4a65c_size_8abf5) := goodIn_app (goodIn_of _ (by decide +kernel)) ggX6_noneTooManyIfAllJoined_Jx4a65c_size_8abf5
set_option maxRecDepth 20000 in
theorem ggX6_noneTooManyIfAllJoined_Jx4a65c_get_915e3 : GoodIn wsX6_noneTooManyIfAllJoined wsJx4a65c_get_915e3 := goodIn_r _ [14, 10, 15, 16, 17, 18, 19, 20, 21, 22, 23, 24, 25, 8, 26, 27, 57, 58, 59] (by decide +kernel) (by decide +kernel)
set_option maxRecDepth 20000 in
theorem gX6_noneTooManyIfAllJoined_Jx4a65c_get_915e3 : GoodIn wsX6_noneTooManyIfAllJoined (wsV RX6 122 RJx4a65c yJx4a65c_get_915e3 wsJx4a65c_get_915e3) := goodIn_app (goodIn_of _ (by decide +kernel)) ggX6_noneTooManyIfAllJoined_Jx4a65c_get_915e3
set_option maxRecDepth 20000 in
theorem ggX6_noneTooManyIfAllJoined_X6_giftsOf : GoodIn wsX6_noneTooManyIfAllJoined wsX6_giftsOf := goodIn_r _ [32, 33, 34, 35, 36, 37, 5, 6, 7, 8, 9, 10, 11, 12, 13, 14, 15, 16, 17, 18, 19, 20, 21, 22, 23, 24, 25, 26, 27, 38, 39, 31, 40, 41, 42, 43, 44, 45, 46, 47, 48, 49, 60, 61, 62, 63, 64, 65, 66, 67, 68, 69, 70, 71, 72, 73, 74, 75, 76, 57, 58, 59] (by decide +kernel) (by decide +kernel)
set_option maxRecDepth 20000 in
theorem gX6_noneTooManyIfAllJoined_X6_giftsOf : GoodIn wsX6_noneTooManyIfAllJoined (wsV RX6 239 RX6 yX6_giftsOf wsX6_giftsOf) := goodIn_app (goodIn_of _ (by decide +kernel)) ggX6_noneTooManyIfAllJoined_X6_giftsOf
theorem dX6_noneTooManyIfAllJoined_0 : decode cX6_noneTooManyIfAllJoined 0 = .ok (.aload_n 0, 1) := by decide +kernel
theorem dX6_noneTooManyIfAllJoined_1 : decode cX6_noneTooManyIfAllJoined 1 = .ok (.getfield 25, 3) := by decide +kernel
theorem dX6_noneTooManyIfAllJoined_4 : decode cX6_noneTooManyIfAllJoined 4 = .ok (.bipush 7, 2) := by decide +kernel
theorem dX6_noneTooManyIfAllJoined_6 : decode cX6_noneTooManyIfAllJoined 6 = .ok (.if_icmp .eq 5, 3) := by decide +kernel
theorem dX6_noneTooManyIfAllJoined_9 : decode cX6_noneTooManyIfAllJoined 9 = .ok (.iconst 1, 1) := by decide +kernel
theorem dX6_noneTooManyIfAllJoined_10 : decode cX6_noneTooManyIfAllJoined 10 = .ok (.ireturn, 1) := by decide +kernel
theorem dX6_noneTooManyIfAllJoined_11 : decode cX6_noneTooManyIfAllJoined 11 = .ok (.iconst 0, 1) := by decide +kernel
theorem dX6_noneTooManyIfAllJoined_12 : decode cX6_noneTooManyIfAllJoined 12 = .ok (.istore_n 1, 1) := by decide +kernel
theorem dX6_noneTooManyIfAllJoined_13 : decode cX6_noneTooManyIfAllJoined 13 = .ok (.iload_n 1, 1) := by decide +kernel
theorem dX6_noneTooManyIfAllJoined_14 : decode cX6_noneTooManyIfAllJoined 14 = .ok (.aload_n 0, 1) := by decide +kernel
theorem dX6_noneTooManyIfAllJoined_15 : decode cX6_noneTooManyIfAllJoined 15 = .ok (.getfield 12, 3) := by decide +kernel
theorem dX6_noneTooManyIfAllJoined_18 : decode cX6_noneTooManyIfAllJoined 18 = .ok (.invokevirtual 47, 3) := by decide +kernel
theorem dX6_noneTooManyIfAllJoined_21 : decode cX6_noneTooManyIfAllJoined 21 = .ok (.if_icmp .ge 36, 3) := by decide +kernel
theorem dX6_noneTooManyIfAllJoined_24 : decode cX6_noneTooManyIfAllJoined 24 = .ok (.aload_n 0, 1) := by decide +kernel
theorem dX6_noneTooManyIfAllJoined_25 : decode cX6_noneTooManyIfAllJoined 25 = .ok (.getfield 12, 3) := by decide +kernel
theorem dX6_noneTooManyIfAllJoined_28 : decode cX6_noneTooManyIfAllJoined 28 = .ok (.iload_n 1, 1) := by decide +kernel
theorem dX6_noneTooManyIfAllJoined_29 : decode cX6_noneTooManyIfAllJoined 29 = .ok (.invokevirtual 122, 3) := by decide +kernel
theorem dX6_noneTooManyIfAllJoined_32 : decode cX6_noneTooManyIfAllJoined 32 = .ok (.checkcast 56, 3) := by decide +kernel
theorem dX6_noneTooManyIfAllJoined_35 : decode cX6_noneTooManyIfAllJoined 35 = .ok (.astore_n 2, 1) := by decide +kernel
theorem dX6_noneTooManyIfAllJoined_36 : decode cX6_noneTooManyIfAllJoined 36 = .ok (.aload_n 0, 1) := by decide +kernel
theorem dX6_noneTooManyIfAllJoined_37 : decode cX6_noneTooManyIfAllJoined 37 = .ok (.aload_n 2, 1) := by decide +kernel
theorem dX6_noneTooManyIfAllJoined_38 : decode cX6_noneTooManyIfAllJoined 38 = .ok (.iconst 0, 1) := by decide +kernel
theorem dX6_noneTooManyIfAllJoined_39 : decode cX6_noneTooManyIfAllJoined 39 = .ok (.invokevirtual 239, 3) := by decide +kernel
theorem dX6_noneTooManyIfAllJoined_42 : decode cX6_noneTooManyIfAllJoined 42 = .ok (.aload_n 2, 1) := by decide +kernel
theorem dX6_noneTooManyIfAllJoined_43 : decode cX6_noneTooManyIfAllJoined 43 = .ok (.getfield 232, 3) := by decide +kernel
theorem dX6_noneTooManyIfAllJoined_46 : decode cX6_noneTooManyIfAllJoined 46 = .ok (.if_icmp .le 5, 3) := by decide +kernel
theorem dX6_noneTooManyIfAllJoined_49 : decode cX6_noneTooManyIfAllJoined 49 = .ok (.iconst 0, 1) := by decide +kernel
theorem dX6_noneTooManyIfAllJoined_50 : decode cX6_noneTooManyIfAllJoined 50 = .ok (.ireturn, 1) := by decide +kernel
theorem dX6_noneTooManyIfAllJoined_51 : decode cX6_noneTooManyIfAllJoined 51 = .ok (.iinc 1 1, 3) := by decide +kernel
theorem dX6_noneTooManyIfAllJoined_54 : decode cX6_noneTooManyIfAllJoined 54 = .ok (.goto (-41), 3) := by decide +kernel
theorem dX6_noneTooManyIfAllJoined_57 : decode cX6_noneTooManyIfAllJoined 57 = .ok (.iconst 1, 1) := by decide +kernel
theorem dX6_noneTooManyIfAllJoined_58 : decode cX6_noneTooManyIfAllJoined 58 = .ok (.ireturn, 1) := by decide +kernel
set_option maxRecDepth 20000 in
theorem ggX6_noPurseBelowZero_Jx4a65c_size_8abf5 : GoodIn wsX6_noPurseBelowZero wsJx4a65c_size_8abf5 := goodIn_r _ [8, 9, 38, 39, 40] (by decide +kernel) (by decide +kernel)
set_option maxRecDepth 20000 in
theorem gX6_noPurseBelowZero_Jx4a65c_size_8abf5 : GoodIn wsX6_noPurseBelowZero (wsV RX6 47 RJx4a65c yJx4a65c_size_8abf5 wsJx4a65c_size_8abf5) := goodIn_app (goodIn_of _ (by decide +kernel)) ggX6_noPurseBelowZero_Jx4a65c_size_8abf5
set_option maxRecDepth 20000 in
theorem ggX6_noPurseBelowZero_Jx4a65c_get_915e3 : GoodIn wsX6_noPurseBelowZero wsJx4a65c_get_915e3 := goodIn_r _ [13, 9, 14, 15, 16, 17, 18, 19, 20, 21, 22, 23, 24, 7, 25, 26, 38, 39, 40] (by decide +kernel) (by decide +kernel)
set_option maxRecDepth 20000 in
theorem gX6_noPurseBelowZero_Jx4a65c_get_915e3 : GoodIn wsX6_noPurseBelowZero (wsV RX6 122 RJx4a65c yJx4a65c_get_915e3 wsJx4a65c_get_915e3) := goodIn_app (goodIn_of _ (by decide +kernel)) ggX6_noPurseBelowZero_Jx4a65c_get_915e3
theorem dX6_noPurseBelowZero_0 : decode cX6_noPurseBelowZero 0 = .ok (.iconst 0, 1) := by decide +kernel
theorem dX6_noPurseBelowZero_1 : decode cX6_noPurseBelowZero 1 = .ok (.istore_n 1, 1) := by decide +kernel
theorem dX6_noPurseBelowZero_2 : decode cX6_noPurseBelowZero 2 = .ok (.iload_n 1, 1) := by decide +kernel
theorem dX6_noPurseBelowZero_3 : decode cX6_noPurseBelowZero 3 = .ok (.aload_n 0, 1) := by decide +kernel
theorem dX6_noPurseBelowZero_4 : decode cX6_noPurseBelowZero 4 = .ok (.getfield 16, 3) := by decide +kernel
theorem dX6_noPurseBelowZero_7 : decode cX6_noPurseBelowZero 7 = .ok (.invokevirtual 47, 3) := by decide +kernel
theorem dX6_noPurseBelowZero_10 : decode cX6_noPurseBelowZero 10 = .ok (.if_icmp .ge 28, 3) := by decide +kernel
theorem dX6_noPurseBelowZero_13 : decode cX6_noPurseBelowZero 13 = .ok (.aload_n 0, 1) := by decide +kernel
theorem dX6_noPurseBelowZero_14 : decode cX6_noPurseBelowZero 14 = .ok (.getfield 16, 3) := by decide +kernel
theorem dX6_noPurseBelowZero_17 : decode cX6_noPurseBelowZero 17 = .ok (.iload_n 1, 1) := by decide +kernel
theorem dX6_noPurseBelowZero_18 : decode cX6_noPurseBelowZero 18 = .ok (.invokevirtual 122, 3) := by decide +kernel
theorem dX6_noPurseBelowZero_21 : decode cX6_noPurseBelowZero 21 = .ok (.checkcast 69, 3) := by decide +kernel
theorem dX6_noPurseBelowZero_24 : decode cX6_noPurseBelowZero 24 = .ok (.getfield 158, 3) := by decide +kernel
theorem dX6_noPurseBelowZero_27 : decode cX6_noPurseBelowZero 27 = .ok (.ifCond .ge 5, 3) := by decide +kernel
theorem dX6_noPurseBelowZero_30 : decode cX6_noPurseBelowZero 30 = .ok (.iconst 0, 1) := by decide +kernel
theorem dX6_noPurseBelowZero_31 : decode cX6_noPurseBelowZero 31 = .ok (.ireturn, 1) := by decide +kernel
theorem dX6_noPurseBelowZero_32 : decode cX6_noPurseBelowZero 32 = .ok (.iinc 1 1, 3) := by decide +kernel
theorem dX6_noPurseBelowZero_35 : decode cX6_noPurseBelowZero 35 = .ok (.goto (-33), 3) := by decide +kernel
theorem dX6_noPurseBelowZero_38 : decode cX6_noPurseBelowZero 38 = .ok (.iconst 1, 1) := by decide +kernel
theorem dX6_noPurseBelowZero_39 : decode cX6_noPurseBelowZero 39 = .ok (.ireturn, 1) := by decide +kernel
set_option maxRecDepth 20000 in
theorem ggX6_noOrderedLacks_Jx4a65c_size_8abf5 : GoodIn wsX6_noOrderedLacks wsJx4a65c_size_8abf5 := goodIn_r _ [7, 8, 60, 61, 62] (by decide +kernel) (by decide +kernel)
set_option maxRecDepth 20000 in
theorem gX6_noOrderedLacks_Jx4a65c_size_8abf5 : GoodIn wsX6_noOrderedLacks (wsV RX6 47 RJx4a65c yJx4a65c_size_8abf5 wsJx4a65c_size_8abf5) := goodIn_app (goodIn_of _ (by decide +kernel)) ggX6_noOrderedLacks_Jx4a65c_size_8abf5
set_option maxRecDepth 20000 in
theorem ggX6_noOrderedLacks_Jx4a65c_get_915e3 : GoodIn wsX6_noOrderedLacks wsJx4a65c_get_915e3 := goodIn_r _ [12, 8, 13, 14, 15, 16, 17, 18, 19, 20, 21, 22, 23, 6, 24, 25, 60, 61, 62] (by decide +kernel) (by decide +kernel)
set_option maxRecDepth 20000 in
theorem gX6_noOrderedLacks_Jx4a65c_get_915e3 : GoodIn wsX6_noOrderedLacks (wsV RX6 122 RJx4a65c yJx4a65c_get_915e3 wsJx4a65c_get_915e3) := goodIn_app (goodIn_of _ (by decide +kernel)) ggX6_noOrderedLacks_Jx4a65c_get_915e3
set_option maxRecDepth 20000 in
theorem ggX6_noOrderedLacks_X5_isOrdered : GoodIn wsX6_noOrderedLacks wsX5_isOrdered := goodIn_r _ [30, 31, 32, 33, 34, 29, 35, 36, 37, 38, 39, 40, 41, 42, 43, 44, 45, 46, 47, 48, 4, 5, 6, 7, 8, 49, 10, 11, 12, 13, 14, 15, 16, 17, 18, 19, 20, 21, 22, 23, 24, 25, 63, 64, 65, 66, 67, 68, 69, 70, 71, 60, 61, 62] (by decide +kernel) (by decide +kernel)
set_option maxRecDepth 20000 in
theorem gX6_noOrderedLacks_X5_isOrdered : GoodIn wsX6_noOrderedLacks (wsV RX6 242 RX5 yX5_isOrdered wsX5_isOrdered) := goodIn_app (goodIn_of _ (by decide +kernel)) ggX6_noOrderedLacks_X5_isOrdered
set_option maxRecDepth 20000 in
theorem ggX6_noOrderedLacks_X5_lacking : GoodIn wsX6_noOrderedLacks wsX5_lacking := goodIn_r _ [35, 31, 36, 37, 38, 39, 40, 41, 42, 43, 29, 44, 45, 46, 47, 48, 4, 5, 6, 7, 8, 49, 10, 11, 12, 13, 14, 15, 16, 17, 18, 19, 20, 21, 22, 23, 24, 25, 63, 64, 65, 66, 67, 68, 69, 70, 71, 60, 61, 62] (by decide +kernel) (by decide +kernel)
set_option maxRecDepth 20000 in
theorem gX6_noOrderedLacks_X5_lacking : GoodIn wsX6_noOrderedLacks (wsV RX6 206 RX5 yX5_lacking wsX5_lacking) := goodIn_app (goodIn_of _ (by decide +kernel)) ggX6_noOrderedLacks_X5_lacking
theorem dX6_noOrderedLacks_0 : decode cX6_noOrderedLacks 0 = .ok (.iconst 0, 1) := by decide +kernel
theorem dX6_noOrderedLacks_1 : decode cX6_noOrderedLacks 1 = .ok (.istore_n 1, 1) := by decide +kernel
theorem dX6_noOrderedLacks_2 : decode cX6_noOrderedLacks 2 = .ok (.iload_n 1, 1) := by decide +kernel
theorem dX6_noOrderedLacks_3 : decode cX6_noOrderedLacks 3 = .ok (.aload_n 0, 1) := by decide +kernel
theorem dX6_noOrderedLacks_4 : decode cX6_noOrderedLacks 4 = .ok (.getfield 12, 3) := by decide +kernel
theorem dX6_noOrderedLacks_7 : decode cX6_noOrderedLacks 7 = .ok (.invokevirtual 47, 3) := by decide +kernel
theorem dX6_noOrderedLacks_10 : decode cX6_noOrderedLacks 10 = .ok (.if_icmp .ge 37, 3) := by decide +kernel
theorem dX6_noOrderedLacks_13 : decode cX6_noOrderedLacks 13 = .ok (.aload_n 0, 1) := by decide +kernel
theorem dX6_noOrderedLacks_14 : decode cX6_noOrderedLacks 14 = .ok (.getfield 12, 3) := by decide +kernel
theorem dX6_noOrderedLacks_17 : decode cX6_noOrderedLacks 17 = .ok (.iload_n 1, 1) := by decide +kernel
theorem dX6_noOrderedLacks_18 : decode cX6_noOrderedLacks 18 = .ok (.invokevirtual 122, 3) := by decide +kernel
theorem dX6_noOrderedLacks_21 : decode cX6_noOrderedLacks 21 = .ok (.checkcast 56, 3) := by decide +kernel
theorem dX6_noOrderedLacks_24 : decode cX6_noOrderedLacks 24 = .ok (.astore_n 2, 1) := by decide +kernel
theorem dX6_noOrderedLacks_25 : decode cX6_noOrderedLacks 25 = .ok (.aload_n 2, 1) := by decide +kernel
theorem dX6_noOrderedLacks_26 : decode cX6_noOrderedLacks 26 = .ok (.invokevirtual 242, 3) := by decide +kernel
theorem dX6_noOrderedLacks_29 : decode cX6_noOrderedLacks 29 = .ok (.ifCond .eq 12, 3) := by decide +kernel
theorem dX6_noOrderedLacks_32 : decode cX6_noOrderedLacks 32 = .ok (.aload_n 2, 1) := by decide +kernel
theorem dX6_noOrderedLacks_33 : decode cX6_noOrderedLacks 33 = .ok (.invokevirtual 206, 3) := by decide +kernel
theorem dX6_noOrderedLacks_36 : decode cX6_noOrderedLacks 36 = .ok (.ifCond .le 5, 3) := by decide +kernel
theorem dX6_noOrderedLacks_39 : decode cX6_noOrderedLacks 39 = .ok (.iconst 0, 1) := by decide +kernel
theorem dX6_noOrderedLacks_40 : decode cX6_noOrderedLacks 40 = .ok (.ireturn, 1) := by decide +kernel
theorem dX6_noOrderedLacks_41 : decode cX6_noOrderedLacks 41 = .ok (.iinc 1 1, 3) := by decide +kernel
theorem dX6_noOrderedLacks_44 : decode cX6_noOrderedLacks 44 = .ok (.goto (-42), 3) := by decide +kernel
theorem dX6_noOrderedLacks_47 : decode cX6_noOrderedLacks 47 = .ok (.iconst 1, 1) := by decide +kernel
theorem dX6_noOrderedLacks_48 : decode cX6_noOrderedLacks 48 = .ok (.ireturn, 1) := by decide +kernel
set_option maxRecDepth 20000 in
theorem ggX6_joinedTillsSeeAlike_X6_isJoined : GoodIn wsX6_joinedTillsSeeAlike wsX6_isJoined := goodIn_r _ [5, 6, 52, 53, 54, 55, 56, 57, 58, 59, 60] (by decide +kernel) (by decide +kernel)
set_option maxRecDepth 20000 in
theorem gX6_joinedTillsSeeAlike_X6_isJoined : GoodIn wsX6_joinedTillsSeeAlike (wsV RX6 105 RX6 yX6_isJoined wsX6_isJoined) := goodIn_app (goodIn_of _ (by decide +kernel)) ggX6_joinedTillsSeeAlike_X6_isJoined
set_option maxRecDepth 20000 in
theorem ggX6_joinedTillsSeeAlike_X6_keptSeenAt : GoodIn wsX6_joinedTillsSeeAlike wsX6_keptSeenAt := goodIn_r _ [10, 11, 12, 13, 14, 15, 16, 17, 18, 19, 20, 21, 22, 23, 24, 25, 26, 27, 28, 29, 30, 31, 32, 33, 34, 35, 36, 37, 38, 39, 40, 41, 42, 43, 44, 45, 46, 47, 48, 49, 50, 4, 51, 52, 53, 54, 55, 56, 57, 58, 59, 60, 61, 62, 63, 64, 65, 66, 67, 68, 69, 70, 71, 72, 73, 74, 75, 76, 77, 78, 79, 80] (by decide +kernel) (by decide +kernel)
set_option maxRecDepth 20000 in
theorem gX6_joinedTillsSeeAlike_X6_keptSeenAt : GoodIn wsX6_joinedTillsSeeAlike (wsV RX6 269 RX6 yX6_keptSeenAt wsX6_keptSeenAt) := goodIn_app (goodIn_of _ (by decide +kernel)) ggX6_joinedTillsSeeAlike_X6_keptSeenAt
theorem dX6_joinedTillsSeeAlike_0 : decode cX6_joinedTillsSeeAlike 0 = .ok (.iconst (-1), 1) := by decide +kernel
theorem dX6_joinedTillsSeeAlike_1 : decode cX6_joinedTillsSeeAlike 1 = .ok (.istore_n 1, 1) := by decide +kernel
theorem dX6_joinedTillsSeeAlike_2 : decode cX6_joinedTillsSeeAlike 2 = .ok (.iconst 0, 1) := by decide +kernel
theorem dX6_joinedTillsSeeAlike_3 : decode cX6_joinedTillsSeeAlike 3 = .ok (.istore_n 2, 1) := by decide +kernel
theorem dX6_joinedTillsSeeAlike_4 : decode cX6_joinedTillsSeeAlike 4 = .ok (.iload_n 2, 1) := by decide +kernel
theorem dX6_joinedTillsSeeAlike_5 : decode cX6_joinedTillsSeeAlike 5 = .ok (.iconst 3, 1) := by decide +kernel
theorem dX6_joinedTillsSeeAlike_6 : decode cX6_joinedTillsSeeAlike 6 = .ok (.if_icmp .ge 40, 3) := by decide +kernel
theorem dX6_joinedTillsSeeAlike_9 : decode cX6_joinedTillsSeeAlike 9 = .ok (.aload_n 0, 1) := by decide +kernel
theorem dX6_joinedTillsSeeAlike_10 : decode cX6_joinedTillsSeeAlike 10 = .ok (.iload_n 2, 1) := by decide +kernel
theorem dX6_joinedTillsSeeAlike_11 : decode cX6_joinedTillsSeeAlike 11 = .ok (.invokevirtual 105, 3) := by decide +kernel
theorem dX6_joinedTillsSeeAlike_14 : decode cX6_joinedTillsSeeAlike 14 = .ok (.ifCond .ne 6, 3) := by decide +kernel
theorem dX6_joinedTillsSeeAlike_17 : decode cX6_joinedTillsSeeAlike 17 = .ok (.goto 23, 3) := by decide +kernel
theorem dX6_joinedTillsSeeAlike_20 : decode cX6_joinedTillsSeeAlike 20 = .ok (.aload_n 0, 1) := by decide +kernel
theorem dX6_joinedTillsSeeAlike_21 : decode cX6_joinedTillsSeeAlike 21 = .ok (.iload_n 2, 1) := by decide +kernel
theorem dX6_joinedTillsSeeAlike_22 : decode cX6_joinedTillsSeeAlike 22 = .ok (.invokevirtual 269, 3) := by decide +kernel
theorem dX6_joinedTillsSeeAlike_25 : decode cX6_joinedTillsSeeAlike 25 = .ok (.istore_n 3, 1) := by decide +kernel
theorem dX6_joinedTillsSeeAlike_26 : decode cX6_joinedTillsSeeAlike 26 = .ok (.iload_n 1, 1) := by decide +kernel
theorem dX6_joinedTillsSeeAlike_27 : decode cX6_joinedTillsSeeAlike 27 = .ok (.iconst (-1), 1) := by decide +kernel
theorem dX6_joinedTillsSeeAlike_28 : decode cX6_joinedTillsSeeAlike 28 = .ok (.if_icmp .eq 10, 3) := by decide +kernel
theorem dX6_joinedTillsSeeAlike_31 : decode cX6_joinedTillsSeeAlike 31 = .ok (.iload_n 3, 1) := by decide +kernel
theorem dX6_joinedTillsSeeAlike_32 : decode cX6_joinedTillsSeeAlike 32 = .ok (.iload_n 1, 1) := by decide +kernel
theorem dX6_joinedTillsSeeAlike_33 : decode cX6_joinedTillsSeeAlike 33 = .ok (.if_icmp .eq 5, 3) := by decide +kernel
theorem dX6_joinedTillsSeeAlike_36 : decode cX6_joinedTillsSeeAlike 36 = .ok (.iconst 0, 1) := by decide +kernel
theorem dX6_joinedTillsSeeAlike_37 : decode cX6_joinedTillsSeeAlike 37 = .ok (.ireturn, 1) := by decide +kernel
theorem dX6_joinedTillsSeeAlike_38 : decode cX6_joinedTillsSeeAlike 38 = .ok (.iload_n 3, 1) := by decide +kernel
theorem dX6_joinedTillsSeeAlike_39 : decode cX6_joinedTillsSeeAlike 39 = .ok (.istore_n 1, 1) := by decide +kernel
theorem dX6_joinedTillsSeeAlike_40 : decode cX6_joinedTillsSeeAlike 40 = .ok (.iinc 2 1, 3) := by decide +kernel
theorem dX6_joinedTillsSeeAlike_43 : decode cX6_joinedTillsSeeAlike 43 = .ok (.goto (-39), 3) := by decide +kernel
theorem dX6_joinedTillsSeeAlike_46 : decode cX6_joinedTillsSeeAlike 46 = .ok (.iconst 1, 1) := by decide +kernel
theorem dX6_joinedTillsSeeAlike_47 : decode cX6_joinedTillsSeeAlike 47 = .ok (.ireturn, 1) := by decide +kernel
end
section
/-! ===== worlds as a pool: a list of addresses and what stands at each; rows over it ===== -/
section MW
variable {p : Program} {l : Launch} {e : Env} {R : Room} {s : State} {m : MethodId} {args : Array Value} {below : List Frame} {meth : Method} {c : Code} {H : Heap} {locs : List Loc} {cells slots : Nat} {Q : State → Prop}
variable {cc : ByteArray} {pc : Nat} {ls : Array Slot} {rest : List Value} {D : va_G} {cl : List vw_C} {A : Nat → Prop} {a : Nat} {tys : List (ClassId × FieldType)} {L : List Nat} {f : Nat → va_E} {H0 : Heap}
theorem mw_at {x : va_E} (ha : a ∈ L) (hf : f a = x) : ∃ j : Nat, (va_pl L f)[j]? = some (a, x) := by
  obtain ⟨j, hj⟩ := va_pl_get (X := []) (f := f) ha
  exact ⟨j, by rw [← hf]; exact hj⟩
theorem mw_set {x : va_E} (y : va_E) {j : Nat} (hD : va_D A (va_pl L f)) (ha : a ∈ L) (hf : f a = x) (hj : (va_pl L f)[j]? = some (a, x)) : (va_pl L f).set j (a, y) = va_pl L (va_up f a y) := by
  have h := va_pl_set (X := []) (e := y) hD ha (k := j) (by rw [hf]; exact hj)
  exact h
theorem mw_get (hexec : p.tables.exec = Jvm.exec) (hb : c.code = cc) {own ref C : String} {T : u_T} {N ci index : Nat} {Ts : List Cond} (hts : ∀ w ∈ Ts, w.before args s = true) (hin : ∀ w ∈ u_ws C T N, w ∈ Ts) (hown : s.vm.findClass own = some m.cls) (hK : va_K D cl tys s) (hP : va_P D cl (va_pl L f) H) (ha : a ∈ L) {fs : List Value} (hf : f a = .inr (ci, fs)) (hc : cl[ci]? = some (C, T, N)) (k : Nat) (hk : k < N) (hlink : (Cond.fieldLink own index ref (T k).2.1 (T k).2.2.1).before args s = true) (hsame : ∀ x, s.fieldFound? (T k).1 (T k).2.1 (T k).2.2.1 = some x → s.fieldFound? ref (T k).2.1 (T k).2.2.1 = some x) {v : Value} (hv : fs[k]? = some v) (hdg : decode cc pc = .ok (.getfield index, 3)) (kk : W p l e R s m args below meth c H locs cells slots Q (F0 m (pc + 3) ls (v :: rest))) : W p l e R s m args below meth c H locs cells slots Q (F0 m pc ls (.ref a :: rest)) := by
  obtain ⟨j, hj⟩ := mw_at ha hf
  exact va_get hexec hb hts hin hown hK hP j hj hc k hk hlink hsame hv hdg kk
theorem mw_put (hexec : p.tables.exec = Jvm.exec) (hb : c.code = cc) {own ref C : String} {T : u_T} {N ci index : Nat} {Ts : List Cond} (hts : ∀ w ∈ Ts, w.before args s = true) (hin : ∀ w ∈ u_ws C T N, w ∈ Ts) (ty0 : Nat → FieldType) (hty : ∀ k, k < N → parseFieldDescriptor (T k).2.2.1 = some (ty0 k)) (hnm : ∀ a, a < N → ∀ b, b < N → a ≠ b → (T a).2.1 ≠ (T b).2.1) (hown : s.vm.findClass own = some m.cls) (hK : va_K D cl tys s) (hP : va_P D cl (va_pl L f) H) (hD : va_D A (va_pl L f)) (hS0 : va_S A H0 H locs) (ha : a ∈ L) {fs : List Value} (hf : f a = .inr (ci, fs)) (hc : cl[ci]? = some (C, T, N)) (k : Nat) (hk : k < N) (hlink : (Cond.fieldLink own index ref (T k).2.1 (T k).2.2.1).before args s = true) (hsame : ∀ x, s.fieldFound? (T k).1 (T k).2.1 (T k).2.2.1 = some x → s.fieldFound? ref (T k).2.1 (T k).2.2.1 = some x) (hfin : (T k).2.2.2 = false) {ty : FieldType} {v : Value} (hd : parseFieldDescriptor (T k).2.2.1 = some ty) (hn : narrow ty v = v) (hfit : fits ty v = true) (hl : k < fs.length) {fs' : List Value} (hfs : fs.set k v = fs')
    (hdg : decode cc pc = .ok (.putfield index, 3)) (kk : ∀ (H1 : Heap) (locs1 : List Loc), va_P D cl (va_pl L (va_up f a (.inr (ci, fs')))) H1 → va_D A (va_pl L (va_up f a (.inr (ci, fs')))) → va_S A H0 H1 locs1 → W p l e R s m args below meth c H1 locs1 cells slots Q (F0 m (pc + 3) ls rest)) : W p l e R s m args below meth c H locs cells slots Q (F0 m pc ls (v :: .ref a :: rest)) := by
  obtain ⟨j, hj⟩ := mw_at ha hf
  subst hfs
  refine va_put hexec hb hts hin ty0 hty hnm hown hK hP hD hS0 j hj hc k hk hlink hsame hfin hd hn hfit hl hdg (fun H1 locs1 h1 h2 h3 => ?_)
  rw [mw_set _ hD ha hf hj] at h1 h2
  exact kk H1 locs1 h1 h2 h3
theorem mw_putF (hexec : p.tables.exec = Jvm.exec) (hb : c.code = cc) {own ref C : String} {T : u_T} {N ci index : Nat} {Ts : List Cond} (hts : ∀ w ∈ Ts, w.before args s = true) (hin : ∀ w ∈ u_ws C T N, w ∈ Ts) (ty0 : Nat → FieldType) (hty : ∀ k, k < N → parseFieldDescriptor (T k).2.2.1 = some (ty0 k)) (hnm : ∀ a, a < N → ∀ b, b < N → a ≠ b → (T a).2.1 ≠ (T b).2.1) (hown : s.vm.findClass own = some m.cls) (hK : va_K D cl tys s) (hP : va_P D cl (va_pl L f) H) (hD : va_D A (va_pl L f)) (hS0 : va_S A H0 H locs) (ha : a ∈ L) {fs : List Value} (hf : f a = .inr (ci, fs)) (hc : cl[ci]? = some (C, T, N)) (k : Nat) (hk : k < N) (hlink : (Cond.fieldLink own index ref (T k).2.1 (T k).2.2.1).before args s = true) (hsame : ∀ x, s.fieldFound? (T k).1 (T k).2.1 (T k).2.2.1 = some x → s.fieldFound? ref (T k).2.1 (T k).2.2.1 = some x) (hfin : (T k).2.2.2 = true) (hin2 : meth.name = "<init>") (hdecl : (T k).1 = own) {ty : FieldType} {v : Value} (hd : parseFieldDescriptor (T k).2.2.1 = some ty) (hn : narrow ty v = v) (hfit : fits ty v = true) (hl : k < fs.length) {fs' : List Value} (hfs : fs.set k v = fs')
    (hdg : decode cc pc = .ok (.putfield index, 3)) (kk : ∀ (H1 : Heap) (locs1 : List Loc), va_P D cl (va_pl L (va_up f a (.inr (ci, fs')))) H1 → va_D A (va_pl L (va_up f a (.inr (ci, fs')))) → va_S A H0 H1 locs1 → W p l e R s m args below meth c H1 locs1 cells slots Q (F0 m (pc + 3) ls rest)) : W p l e R s m args below meth c H locs cells slots Q (F0 m pc ls (v :: .ref a :: rest)) := by
  obtain ⟨j, hj⟩ := mw_at ha hf
  subst hfs
  refine va_putF hexec hb hts hin ty0 hty hnm hown hK hP hD hS0 j hj hc k hk hlink hsame hfin hin2 hdecl hd hn hfit hl hdg (fun H1 locs1 h1 h2 h3 => ?_)
  rw [mw_set _ hD ha hf hj] at h1 h2
  exact kk H1 locs1 h1 h2 h3
theorem mw_push {q : Nat} {x : va_E} {H1 : Heap} (hP : va_P D cl (va_pl L f) H) (hP1 : va_P D cl (va_pl L f ++ [(q, x)]) H1) (hD1 : va_D A (va_pl L f ++ [(q, x)])) : q ∉ L ∧ va_P D cl (va_pl (L ++ [q]) (va_up f q x)) H1 ∧ va_D A (va_pl (L ++ [q]) (va_up f q x)) := by
  have hq : q ∉ L := va_pl_fresh2 (X := []) hD1
  rw [va_pl_push hq] at hP1 hD1
  exact ⟨hq, hP1, hD1⟩
theorem mw_new (hexec : p.tables.exec = Jvm.exec) (hb : c.code = cc) {own C : String} {T : u_T} {N ci index : Nat} {Ts : List Cond} (hts : ∀ w ∈ Ts, w.before args s = true) (hin : ∀ w ∈ u_ws C T N, w ∈ Ts) (ty : Nat → FieldType) (hty : ∀ k, k < N → parseFieldDescriptor (T k).2.2.1 = some (ty k)) (hown : s.vm.findClass own = some m.cls) (hcl : (Cond.classLink own index C).before args s = true) (hinst : (Cond.instantiable C N).before args s = true) (hini : (Cond.initialized C).before args s = true)
    (hK : va_K D cl tys s) (hP : va_P D cl (va_pl L f) H) (hD : va_D A (va_pl L f)) (hS : va_S A H0 H locs) (hA : ∀ q, H0.size ≤ q → A q) (hc : cl[ci]? = some (C, T, N)) {fs : List Value} (hfs : ∀ j, j < N → defaultValue (ty j) = vp_V fs j) (hcells : cells + 1 ≤ R.cells) (hslots : slots + N ≤ R.slots) (hdg : decode cc pc = .ok (.new index, 3))
    (kk : ∀ (q : Nat) (H1 : Heap), q ∉ L → va_P D cl (va_pl (L ++ [q]) (va_up f q (.inr (ci, fs)))) H1 → va_D A (va_pl (L ++ [q]) (va_up f q (.inr (ci, fs)))) → va_S A H0 H1 locs →
      W p l e R s m args below meth c H1 locs (cells + 1) (slots + N) Q (F0 m (pc + 3) ls (.ref q :: rest))) : W p l e R s m args below meth c H locs cells slots Q (F0 m pc ls rest) := by
  refine va_new hexec hb hts hin ty hty hown hcl hinst hini hK hP hD hS hA hc hfs hcells hslots hdg (fun q H1 h1 h2 h3 => ?_)
  obtain ⟨g1, g2, g3⟩ := mw_push hP h1 h2
  exact kk q H1 g1 g2 g3 h3
theorem mw_aldq (hexec : p.tables.exec = Jvm.exec) (hb : c.code = cc) (hK : va_K D cl tys s) (hP : va_P D cl (va_pl L f) H) (ha : a ∈ L) (t0 : Nat) {cA : ClassId} {C : String} {n : Nat} {g : Nat → Option Nat} (hf : f a = .inl (cA, n, .inr (.inr (.inr (.inr g))))) (ht : tys[t0]? = some (cA, .object C)) {i : Int32} (hin : vp_in i n) {o : Option Nat} (ho : g i.toNatClampNeg = o) (hdg : decode cc pc = .ok (.aaload, 1))
    (kk : W p l e R s m args below meth c H locs cells slots Q (F0 m (pc + 1) ls (va_rf o :: rest))) : W p l e R s m args below meth c H locs cells slots Q (F0 m pc ls (.int i :: .ref a :: rest)) := by
  obtain ⟨j, hj⟩ := mw_at ha hf
  subst ho
  exact va_aldq hexec hb hK hP j t0 hj ht hin hdg kk
theorem mw_alen (hexec : p.tables.exec = Jvm.exec) (hb : c.code = cc) (hK : va_K D cl tys s) (hP : va_P D cl (va_pl L f) H) (ha : a ∈ L) (t0 : Nat) {cA : ClassId} {x : vp_A} (hf : f a = .inl (cA, x)) {ty : FieldType} (ht : tys[t0]? = some (cA, ty)) {v : Int32} (hv : Int32.ofNat x.1 = v) (hdg : decode cc pc = .ok (.arraylength, 1))
    (kk : W p l e R s m args below meth c H locs cells slots Q (F0 m (pc + 1) ls (.int v :: rest))) : W p l e R s m args below meth c H locs cells slots Q (F0 m pc ls (.ref a :: rest)) := by
  obtain ⟨j, hj⟩ := mw_at ha hf
  exact va_alen hexec hb hK hP j t0 hj ht hv hdg kk
theorem mw_astq (hexec : p.tables.exec = Jvm.exec) (hb : c.code = cc) (hK : va_K D cl tys s) (hP : va_P D cl (va_pl L f) H) (hD : va_D A (va_pl L f)) (hS : va_S A H0 H locs) (ha : a ∈ L) {v : Nat} (hvL : v ∈ L) (t0 ci : Nat) {E : String} {cA : ClassId} {r : vw_C} {n : Nat} {vs : List Value} {g : Nat → Option Nat} (hf : f a = .inl (cA, n, .inr (.inr (.inr (.inr g))))) (ht : tys[t0]? = some (cA, .object E)) (hca : va_Nw (.castable r.1 E) s) (hv : f v = .inr (ci, vs)) (hc : cl[ci]? = some r) {i : Int32} (hin : vp_in i n) (hdg : decode cc pc = .ok (.aastore, 1))
    (kk : ∀ (H1 : Heap) (locs1 : List Loc), va_P D cl (va_pl L (va_up f a (.inl (cA, n, .inr (.inr (.inr (.inr (va_up g i.toNatClampNeg (some v)))))))) ) H1 → va_D A (va_pl L (va_up f a (.inl (cA, n, .inr (.inr (.inr (.inr (va_up g i.toNatClampNeg (some v))))))))) → va_S A H0 H1 locs1 → W p l e R s m args below meth c H1 locs1 cells slots Q (F0 m (pc + 1) ls rest)) : W p l e R s m args below meth c H locs cells slots Q (F0 m pc ls (.ref v :: .int i :: .ref a :: rest)) := by
  obtain ⟨j, hj⟩ := mw_at ha hf
  obtain ⟨j2, hj2⟩ := mw_at hvL hv
  refine va_astqO hexec hb hK hP hD hS j t0 j2 ci hj ht hca hj2 hc hin hdg (fun H1 locs1 h1 h2 h3 => ?_)
  rw [mw_set _ hD ha hf hj] at h1 h2
  exact kk H1 locs1 h1 h2 h3
theorem mw_astN (hexec : p.tables.exec = Jvm.exec) (hb : c.code = cc) (hK : va_K D cl tys s) (hP : va_P D cl (va_pl L f) H) (hD : va_D A (va_pl L f)) (hS : va_S A H0 H locs) (ha : a ∈ L) (t0 : Nat) {E : String} {cA : ClassId} {n : Nat} {g : Nat → Option Nat} (hf : f a = .inl (cA, n, .inr (.inr (.inr (.inr g))))) (ht : tys[t0]? = some (cA, .object E)) {i : Int32} (hin : vp_in i n) (hdg : decode cc pc = .ok (.aastore, 1))
    (kk : ∀ (H1 : Heap) (locs1 : List Loc), va_P D cl (va_pl L (va_up f a (.inl (cA, n, .inr (.inr (.inr (.inr (va_up g i.toNatClampNeg none)))))))) H1 → va_D A (va_pl L (va_up f a (.inl (cA, n, .inr (.inr (.inr (.inr (va_up g i.toNatClampNeg none)))))))) → va_S A H0 H1 locs1 → W p l e R s m args below meth c H1 locs1 cells slots Q (F0 m (pc + 1) ls rest)) : W p l e R s m args below meth c H locs cells slots Q (F0 m pc ls (.null :: .int i :: .ref a :: rest)) := by
  obtain ⟨j, hj⟩ := mw_at ha hf
  refine va_astqN hexec hb hK hP hD hS j t0 hj ht hin hdg (fun H1 locs1 h1 h2 h3 => ?_)
  rw [mw_set _ hD ha hf hj] at h1 h2
  exact kk H1 locs1 h1 h2 h3
theorem mw_recv {s : State} {H : Heap} {D : va_G} {cl : List vw_C} {a ci : Nat} {q : vw_C} {fs : List Value} {tys : List (ClassId × FieldType)} {L : List Nat} {f : Nat → va_E} (hK : va_K D cl tys s) (hP : va_P D cl (va_pl L f) H) (hc : cl[ci]? = some q) (ha : a ∈ L) (hf : f a = .inr (ci, fs)) : ∃ cell : Cell, H[a]? = some cell ∧ cell.vm.isStatics = false ∧ s.vm.findClass q.1 = some cell.cls := by
  obtain ⟨j, hj⟩ := mw_at ha hf
  exact va_recv hK hP hc hj
end MW
/-! ===== what a state of the system is: numbers by field, place, place ===== -/
abbrev Sg : Type := Nat → Nat → Nat → Nat
def up (σ : Sg) (g i j v : Nat) : Sg := fun g' i' j' => if g' = g ∧ i' = i ∧ j' = j then v else σ g' i' j'
def sX (σ : Sg) : Nat := σ 0 0 0
def sJ (σ : Sg) : Nat := σ 1 0 0
def sM (σ : Sg) : Nat := σ 2 0 0
def sOff (σ : Sg) : Nat := σ 3 0 0
def sPE (σ : Sg) : Nat := σ 4 0 0
def sWB (σ : Sg) : Nat := σ 5 0 0
def lq (σ : Sg) (i : Nat) : Nat := σ 10 i 0
def le (σ : Sg) (i : Nat) : Nat := σ 11 i 0
def lk (σ : Sg) (i : Nat) : Nat := σ 12 i 0
def ln (σ : Sg) (i : Nat) : Nat := σ 13 i 0
def lm (σ : Sg) (i : Nat) : Nat := σ 14 i 0
def el (σ : Sg) (i j : Nat) : Nat := σ 15 i j
def wC (σ : Sg) (i : Nat) : Nat := σ 20 i 0
def wF (σ : Sg) (i : Nat) : Nat := σ 21 i 0
def wP (σ : Sg) (i : Nat) : Nat := σ 22 i 0
def wS (σ : Sg) (i : Nat) : Nat := σ 23 i 0
def gP (σ : Sg) (i : Nat) : Nat := σ 30 i 0
def bW (σ : Sg) (i : Nat) : Nat := σ 40 i 0
def bG (σ : Sg) (i : Nat) : Nat := σ 41 i 0
def bT (σ : Sg) (i : Nat) : Nat := σ 42 i 0
def bM (σ : Sg) (i : Nat) : Nat := σ 43 i 0
def bO (σ : Sg) (i : Nat) : Nat := σ 44 i 0
def bS (σ : Sg) (i : Nat) : Nat := σ 45 i 0
def bP (σ : Sg) (i : Nat) : Nat := σ 46 i 0
def bZ (σ : Sg) (i : Nat) : Nat := σ 47 i 0
def hW (σ : Sg) (i : Nat) : Nat := σ 50 i 0
def hG (σ : Sg) (i : Nat) : Nat := σ 51 i 0
def hT (σ : Sg) (i : Nat) : Nat := σ 52 i 0
def hM (σ : Sg) (i : Nat) : Nat := σ 53 i 0
def hO (σ : Sg) (i : Nat) : Nat := σ 54 i 0
def hS (σ : Sg) (i : Nat) : Nat := σ 55 i 0
def hN (σ : Sg) (i : Nat) : Nat := σ 56 i 0
def hU (σ : Sg) (i : Nat) : Nat := σ 57 i 0
def pG (σ : Sg) (i j : Nat) : Nat := σ 60 i j
def pP (σ : Sg) (i j : Nat) : Nat := σ 61 i j
/-- what the object of each kind holds -/
abbrev e_X (σ : Sg) : va_E := .inr (6, [.ref (lq σ 0), .ref (lq σ 1), .ref (lq σ 2), .ref (lq σ 3), .int (nI (sJ σ)), .int (nI (sM σ)), .int (nI (sOff σ)), .int (nI (sPE σ)), .int (nI (sWB σ))])
abbrev e_L (σ : Sg) (q : Nat) : va_E := .inr (0, [.int (nI (lm σ q)), .ref (le σ q), .int (nI (ln σ q))])
abbrev e_W (σ : Sg) (k : Nat → Nat) (i : Nat) : va_E := .inr (5, [.int (nI i), .int (nI (wC σ i)), .int (nI (wF σ i)), .int (nI (wP σ i)), .int (nI (wS σ i)), .ref (lq σ (4 + i)), .int (nI (k i))])
abbrev e_G (σ : Sg) (i : Nat) : va_E := .inr (2, [.int (nI i), .int (nI (gP σ i))])
abbrev e_B (σ : Sg) (i : Nat) : va_E := .inr (1, [.ref (el σ 0 (bW σ i)), .ref (el σ 1 (bG σ i)), .int (nI (bT σ i)), .int (nI (bM σ i)), .int (nI (bO σ i)), .int (nI (bS σ i)), .int (nI i), .int (nI (bP σ i)), .int (nI (bZ σ i))])
abbrev e_H (σ : Sg) (i : Nat) : va_E := .inr (3, [.ref (el σ 0 (hW σ i)), .ref (el σ 1 (hG σ i)), .int (nI (hT σ i)), .int (nI (hM σ i)), .int (nI (hO σ i)), .int (nI (hS σ i)), .int (nI (hN σ i)), .int (nI (hU σ i))])
abbrev e_P (σ : Sg) (w i : Nat) : va_E := .inr (4, [.ref (el σ 1 (pG σ w i)), .int (nI (pP σ w i))])
/-- list q's array: none yet, or so many places with its elements -/
def ArrAt (cO : ClassId) (E0 : Nat) (σ : Sg) (L : List Nat) (f : Nat → va_E) (q : Nat) : Prop := (le σ q = E0 ∧ ln σ q = 0) ∨ (le σ q ∈ L ∧ ln σ q ≤ lk σ q ∧ 10 ≤ lk σ q ∧ lk σ q ≤ 32768 ∧ ∃ g : Nat → Option Nat, f (le σ q) = .inl (cO, lk σ q, .inr (.inr (.inr (.inr g)))) ∧ ∀ i, i < ln σ q → g i = some (el σ q i))
def Rep (cO : ClassId) (E0 : Nat) (σ : Sg) (k : Nat → Nat) (L : List Nat) (f : Nat → va_E) : Prop :=
  (sX σ ∈ L ∧ f (sX σ) = e_X σ) ∧
  (∀ q, q < 4 + ln σ 0 → lq σ q ∈ L ∧ f (lq σ q) = e_L σ q) ∧
  (∀ q, q < 4 + ln σ 0 → ArrAt cO E0 σ L f q) ∧
  (∀ i, i < ln σ 0 → el σ 0 i ∈ L ∧ f (el σ 0 i) = e_W σ k i) ∧
  (∀ i, i < ln σ 1 → el σ 1 i ∈ L ∧ f (el σ 1 i) = e_G σ i) ∧
  (∀ i, i < ln σ 2 → el σ 2 i ∈ L ∧ f (el σ 2 i) = e_B σ i) ∧
  (∀ i, i < ln σ 3 → el σ 3 i ∈ L ∧ f (el σ 3 i) = e_H σ i) ∧
  (∀ w i, w < ln σ 0 → i < ln σ (4 + w) → el σ (4 + w) i ∈ L ∧ f (el σ (4 + w) i) = e_P σ w i) ∧
  (∀ i, i < ln σ 2 → bW σ i < ln σ 0 ∧ bG σ i < ln σ 1) ∧
  (∀ i, i < ln σ 3 → hW σ i < ln σ 0 ∧ hG σ i < ln σ 1) ∧
  (∀ w i, w < ln σ 0 → i < ln σ (4 + w) → pG σ w i < ln σ 1)
section RepUse
variable {cO : ClassId} {E0 : Nat} {σ : Sg} {k : Nat → Nat} {L : List Nat} {f : Nat → va_E}
theorem Rep.x (h : Rep cO E0 σ k L f) : sX σ ∈ L ∧ f (sX σ) = e_X σ := h.1
theorem Rep.l (h : Rep cO E0 σ k L f) {q : Nat} (hq : q < 4 + ln σ 0) : lq σ q ∈ L ∧ f (lq σ q) = e_L σ q := h.2.1 q hq
theorem Rep.a (h : Rep cO E0 σ k L f) {q : Nat} (hq : q < 4 + ln σ 0) : ArrAt cO E0 σ L f q := h.2.2.1 q hq
theorem Rep.w (h : Rep cO E0 σ k L f) {i : Nat} (hi : i < ln σ 0) : el σ 0 i ∈ L ∧ f (el σ 0 i) = e_W σ k i := h.2.2.2.1 i hi
theorem Rep.g (h : Rep cO E0 σ k L f) {i : Nat} (hi : i < ln σ 1) : el σ 1 i ∈ L ∧ f (el σ 1 i) = e_G σ i := h.2.2.2.2.1 i hi
theorem Rep.b (h : Rep cO E0 σ k L f) {i : Nat} (hi : i < ln σ 2) : el σ 2 i ∈ L ∧ f (el σ 2 i) = e_B σ i := h.2.2.2.2.2.1 i hi
theorem Rep.h (h : Rep cO E0 σ k L f) {i : Nat} (hi : i < ln σ 3) : el σ 3 i ∈ L ∧ f (el σ 3 i) = e_H σ i := h.2.2.2.2.2.2.1 i hi
theorem Rep.p (h : Rep cO E0 σ k L f) {w i : Nat} (hw : w < ln σ 0) (hi : i < ln σ (4 + w)) : el σ (4 + w) i ∈ L ∧ f (el σ (4 + w) i) = e_P σ w i := h.2.2.2.2.2.2.2.1 w i hw hi
theorem Rep.bi (h : Rep cO E0 σ k L f) {i : Nat} (hi : i < ln σ 2) : bW σ i < ln σ 0 ∧ bG σ i < ln σ 1 := h.2.2.2.2.2.2.2.2.1 i hi
theorem Rep.hi (h : Rep cO E0 σ k L f) {i : Nat} (hi : i < ln σ 3) : hW σ i < ln σ 0 ∧ hG σ i < ln σ 1 := h.2.2.2.2.2.2.2.2.2.1 i hi
theorem Rep.pi (h : Rep cO E0 σ k L f) {w i : Nat} (hw : w < ln σ 0) (hi : i < ln σ (4 + w)) : pG σ w i < ln σ 1 := h.2.2.2.2.2.2.2.2.2.2 w i hw hi
theorem Rep.n (h : Rep cO E0 σ k L f) {q : Nat} (hq : q < 4 + ln σ 0) : ln σ q ≤ 32768 := by
  rcases h.a hq with ⟨-, h0⟩ | ⟨-, h1, -, h2, -⟩ <;> omega
theorem Rep.n2 (h : Rep cO E0 σ k L f) {q : Nat} (hq : q < 4 + ln σ 0) : ln σ q < 2 ^ 31 := by
  have := h.n hq
  omega
end RepUse
/-! ===== a call's start: the pool stands, the tables are known ===== -/
abbrev tyO (cO : ClassId) : List (ClassId × FieldType) := [(cO, .object "java/lang/Object")]
def RdP (D : va_G) (cO : ClassId) (L : List Nat) (f : Nat → va_E) (U : State) : Prop := va_P D vwCl (va_pl L f) U.heap ∧ va_K D vwCl (tyO cO) U
theorem rd_blind {D : va_G} {cO : ClassId} {L : List Nat} {f : Nat → va_E} {av : List Value} : FrameBlind (va_Pc av (RdP D cO L f)) := fun a U g mk q => by
  obtain ⟨q0, qP, qK⟩ := q
  exact ⟨q0, qP, va_K.moved (u := U) (U := U.calling g mk a) (Vm.Alike.refl U.vm) qK⟩
theorem rd_preV {D : va_G} {cO : ClassId} {L : List Nat} {f : Nat → va_E} {s : State} {H : Heap} {b ci : Nat} {r : vw_C} {fs : List Value} {As : List Value} {C : String} (hK : va_K D vwCl (tyO cO) s) (hP : va_P D vwCl (va_pl L f) H) (hc : vwCl[ci]? = some r) (hC : r.1 = C) (ha : b ∈ L) (hf : f b = .inr (ci, fs)) : PreV s H C b (va_Pc (.ref b :: As) (RdP D cO L f)) As :=
  ⟨rd_blind, by rw [← hC]; exact mw_recv hK hP hc ha hf, fun U hU hW => ⟨rfl, by rw [hU]; exact hP, va_K.moved hW.alike hK⟩⟩
theorem rd_preS {D : va_G} {cO : ClassId} {L : List Nat} {f : Nat → va_E} {s : State} {H : Heap} {As : List Value} (hK : va_K D vwCl (tyO cO) s) (hP : va_P D vwCl (va_pl L f) H) : PreS s H (va_Pc As (RdP D cO L f)) As :=
  ⟨rd_blind, fun U hU hW => ⟨rfl, by rw [hU]; exact hP, va_K.moved hW.alike hK⟩⟩
end
