-- ===== PART A: goes FIRST, ahead of the names: the tables' words, and 'selects' of the private methods out of them =====
/-- a private method of a class that the tables say can be made, by its rows of tables_1 -/
def lw_okq (q : MethodName × Nat) : Prop := (q.1.cls ≠ "java/lang/invoke/MethodHandle" ∧ q.1.cls ≠ "java/lang/invoke/VarHandle") ∧ Cond.instantiable q.1.cls q.2 ∈ tables_1 ∧ Cond.privateMethod q.1 ∈ tables_1 ∧ Cond.instanceMethod q.1 ∈ tables_1
theorem lw_p0 : lw_okq (⟨"BassButtons$Goods", "offer", "(IIII)V"⟩, 9) := ⟨⟨by decide +kernel, by decide +kernel⟩, List.mem_of_getElem? (i := 116) (by decide +kernel), List.mem_of_getElem? (i := 247) (by decide +kernel), List.mem_of_getElem? (i := 248) (by decide +kernel)⟩
theorem lw_p1 : lw_okq (⟨"BassButtons$Goods", "takeWithLow", "(II)V"⟩, 9) := ⟨⟨by decide +kernel, by decide +kernel⟩, List.mem_of_getElem? (i := 116) (by decide +kernel), List.mem_of_getElem? (i := 257) (by decide +kernel), List.mem_of_getElem? (i := 258) (by decide +kernel)⟩
theorem lw_p2 : lw_okq (⟨"BassButtons$Goods", "hasLowButton", "()Z"⟩, 9) := ⟨⟨by decide +kernel, by decide +kernel⟩, List.mem_of_getElem? (i := 116) (by decide +kernel), List.mem_of_getElem? (i := 261) (by decide +kernel), List.mem_of_getElem? (i := 262) (by decide +kernel)⟩
theorem lw_p3 : lw_okq (⟨"BassButtons$Goods", "insert", "(I)V"⟩, 9) := ⟨⟨by decide +kernel, by decide +kernel⟩, List.mem_of_getElem? (i := 116) (by decide +kernel), List.mem_of_getElem? (i := 274) (by decide +kernel), List.mem_of_getElem? (i := 275) (by decide +kernel)⟩
theorem lw_p4 : lw_okq (⟨"BassButtons$Goods", "offerSingles", "(LBassButtons$Board;)V"⟩, 9) := ⟨⟨by decide +kernel, by decide +kernel⟩, List.mem_of_getElem? (i := 116) (by decide +kernel), List.mem_of_getElem? (i := 278) (by decide +kernel), List.mem_of_getElem? (i := 279) (by decide +kernel)⟩
theorem lw_p5 : lw_okq (⟨"BassButtons$Goods", "offerPairs", "(LBassButtons$Board;)V"⟩, 9) := ⟨⟨by decide +kernel, by decide +kernel⟩, List.mem_of_getElem? (i := 116) (by decide +kernel), List.mem_of_getElem? (i := 282) (by decide +kernel), List.mem_of_getElem? (i := 283) (by decide +kernel)⟩
theorem lw_p6 : lw_okq (⟨"BassButtons", "settleHand", "()V"⟩, 6) := ⟨⟨by decide +kernel, by decide +kernel⟩, List.mem_of_getElem? (i := 11) (by decide +kernel), List.mem_of_getElem? (i := 286) (by decide +kernel), List.mem_of_getElem? (i := 287) (by decide +kernel)⟩
theorem lw_p7 : lw_okq (⟨"BassButtons$Hand", "lookAhead", "(I)V"⟩, 5) := ⟨⟨by decide +kernel, by decide +kernel⟩, List.mem_of_getElem? (i := 74) (by decide +kernel), List.mem_of_getElem? (i := 294) (by decide +kernel), List.mem_of_getElem? (i := 295) (by decide +kernel)⟩
theorem lw_p8 : lw_okq (⟨"BassButtons$Hand", "fewestOnward", "(II)I"⟩, 5) := ⟨⟨by decide +kernel, by decide +kernel⟩, List.mem_of_getElem? (i := 74) (by decide +kernel), List.mem_of_getElem? (i := 306) (by decide +kernel), List.mem_of_getElem? (i := 307) (by decide +kernel)⟩
theorem lw_p9 : lw_okq (⟨"BassButtons$Hand", "firstBest", "(II)I"⟩, 5) := ⟨⟨by decide +kernel, by decide +kernel⟩, List.mem_of_getElem? (i := 74) (by decide +kernel), List.mem_of_getElem? (i := 315) (by decide +kernel), List.mem_of_getElem? (i := 316) (by decide +kernel)⟩
theorem lw_p10 : lw_okq (⟨"BassButtons$Hand", "jumpFromChosen", "(III)I"⟩, 5) := ⟨⟨by decide +kernel, by decide +kernel⟩, List.mem_of_getElem? (i := 74) (by decide +kernel), List.mem_of_getElem? (i := 319) (by decide +kernel), List.mem_of_getElem? (i := 320) (by decide +kernel)⟩
theorem lw_p11 : lw_okq (⟨"BassButtons", "settleBellows", "()V"⟩, 6) := ⟨⟨by decide +kernel, by decide +kernel⟩, List.mem_of_getElem? (i := 11) (by decide +kernel), List.mem_of_getElem? (i := 323) (by decide +kernel), List.mem_of_getElem? (i := 324) (by decide +kernel)⟩
theorem lw_p12 : lw_okq (⟨"BassButtons$Bellows", "turnsWhenTied", "(I)Z"⟩, 6) := ⟨⟨by decide +kernel, by decide +kernel⟩, List.mem_of_getElem? (i := 179) (by decide +kernel), List.mem_of_getElem? (i := 342) (by decide +kernel), List.mem_of_getElem? (i := 343) (by decide +kernel)⟩
theorem lw_p13 : lw_okq (⟨"BassButtons$Bellows", "turnsAt", "(II)Z"⟩, 6) := ⟨⟨by decide +kernel, by decide +kernel⟩, List.mem_of_getElem? (i := 179) (by decide +kernel), List.mem_of_getElem? (i := 346) (by decide +kernel), List.mem_of_getElem? (i := 347) (by decide +kernel)⟩
theorem lw_p14 : lw_okq (⟨"BassButtons$Bellows", "peakOf", "(II)I"⟩, 6) := ⟨⟨by decide +kernel, by decide +kernel⟩, List.mem_of_getElem? (i := 179) (by decide +kernel), List.mem_of_getElem? (i := 354) (by decide +kernel), List.mem_of_getElem? (i := 355) (by decide +kernel)⟩
theorem lw_p15 : lw_okq (⟨"BassButtons$Bellows", "airMoved", "(II)I"⟩, 6) := ⟨⟨by decide +kernel, by decide +kernel⟩, List.mem_of_getElem? (i := 179) (by decide +kernel), List.mem_of_getElem? (i := 358) (by decide +kernel), List.mem_of_getElem? (i := 359) (by decide +kernel)⟩
def lw_privs_1 : List (MethodName × Nat) := [(⟨"BassButtons$Goods", "offer", "(IIII)V"⟩, 9), (⟨"BassButtons$Goods", "takeWithLow", "(II)V"⟩, 9), (⟨"BassButtons$Goods", "hasLowButton", "()Z"⟩, 9), (⟨"BassButtons$Goods", "insert", "(I)V"⟩, 9), (⟨"BassButtons$Goods", "offerSingles", "(LBassButtons$Board;)V"⟩, 9), (⟨"BassButtons$Goods", "offerPairs", "(LBassButtons$Board;)V"⟩, 9), (⟨"BassButtons", "settleHand", "()V"⟩, 6), (⟨"BassButtons$Hand", "lookAhead", "(I)V"⟩, 5), (⟨"BassButtons$Hand", "fewestOnward", "(II)I"⟩, 5), (⟨"BassButtons$Hand", "firstBest", "(II)I"⟩, 5), (⟨"BassButtons$Hand", "jumpFromChosen", "(III)I"⟩, 5), (⟨"BassButtons", "settleBellows", "()V"⟩, 6), (⟨"BassButtons$Bellows", "turnsWhenTied", "(I)Z"⟩, 6), (⟨"BassButtons$Bellows", "turnsAt", "(II)Z"⟩, 6), (⟨"BassButtons$Bellows", "peakOf", "(II)I"⟩, 6), (⟨"BassButtons$Bellows", "airMoved", "(II)I"⟩, 6)]
theorem lw_r1 : ∀ q ∈ lw_privs_1, lw_okq q := List.forall_mem_cons.mpr ⟨lw_p0, List.forall_mem_cons.mpr ⟨lw_p1, List.forall_mem_cons.mpr ⟨lw_p2, List.forall_mem_cons.mpr ⟨lw_p3, List.forall_mem_cons.mpr ⟨lw_p4, List.forall_mem_cons.mpr ⟨lw_p5, List.forall_mem_cons.mpr ⟨lw_p6, List.forall_mem_cons.mpr ⟨lw_p7, List.forall_mem_cons.mpr ⟨lw_p8, List.forall_mem_cons.mpr ⟨lw_p9, List.forall_mem_cons.mpr ⟨lw_p10, List.forall_mem_cons.mpr ⟨lw_p11, List.forall_mem_cons.mpr ⟨lw_p12, List.forall_mem_cons.mpr ⟨lw_p13, List.forall_mem_cons.mpr ⟨lw_p14, List.forall_mem_cons.mpr ⟨lw_p15, fun _ h => absurd h List.not_mem_nil⟩⟩⟩⟩⟩⟩⟩⟩⟩⟩⟩⟩⟩⟩⟩⟩
theorem lw_p16 : lw_okq (⟨"BassButtons$Bellows", "priceOf", "(I)I"⟩, 6) := ⟨⟨by decide +kernel, by decide +kernel⟩, List.mem_of_getElem? (i := 179) (by decide +kernel), List.mem_of_getElem? (i := 364) (by decide +kernel), List.mem_of_getElem? (i := 365) (by decide +kernel)⟩
theorem lw_p17 : lw_okq (⟨"BassButtons", "setRegister", "(I)I"⟩, 6) := ⟨⟨by decide +kernel, by decide +kernel⟩, List.mem_of_getElem? (i := 11) (by decide +kernel), List.mem_of_getElem? (i := 383) (by decide +kernel), List.mem_of_getElem? (i := 384) (by decide +kernel)⟩
theorem lw_p18 : lw_okq (⟨"BassButtons", "setRoom", "(I)I"⟩, 6) := ⟨⟨by decide +kernel, by decide +kernel⟩, List.mem_of_getElem? (i := 11) (by decide +kernel), List.mem_of_getElem? (i := 387) (by decide +kernel), List.mem_of_getElem? (i := 388) (by decide +kernel)⟩
theorem lw_p19 : lw_okq (⟨"BassButtons", "setStart", "(I)I"⟩, 6) := ⟨⟨by decide +kernel, by decide +kernel⟩, List.mem_of_getElem? (i := 11) (by decide +kernel), List.mem_of_getElem? (i := 391) (by decide +kernel), List.mem_of_getElem? (i := 392) (by decide +kernel)⟩
theorem lw_p20 : lw_okq (⟨"BassButtons", "settleBeat", "(I)V"⟩, 6) := ⟨⟨by decide +kernel, by decide +kernel⟩, List.mem_of_getElem? (i := 11) (by decide +kernel), List.mem_of_getElem? (i := 406) (by decide +kernel), List.mem_of_getElem? (i := 407) (by decide +kernel)⟩
theorem lw_p21 : lw_okq (⟨"BassButtonsModel", "isThere", "(I)Z"⟩, 18) := ⟨⟨by decide +kernel, by decide +kernel⟩, List.mem_of_getElem? (i := 520) (by decide +kernel), List.mem_of_getElem? (i := 595) (by decide +kernel), List.mem_of_getElem? (i := 596) (by decide +kernel)⟩
theorem lw_p22 : lw_okq (⟨"BassButtonsModel", "soundOf", "(I)I"⟩, 18) := ⟨⟨by decide +kernel, by decide +kernel⟩, List.mem_of_getElem? (i := 520) (by decide +kernel), List.mem_of_getElem? (i := 599) (by decide +kernel), List.mem_of_getElem? (i := 600) (by decide +kernel)⟩
theorem lw_p23 : lw_okq (⟨"BassButtonsModel", "rootOf", "(I)I"⟩, 18) := ⟨⟨by decide +kernel, by decide +kernel⟩, List.mem_of_getElem? (i := 520) (by decide +kernel), List.mem_of_getElem? (i := 603) (by decide +kernel), List.mem_of_getElem? (i := 604) (by decide +kernel)⟩
theorem lw_p24 : lw_okq (⟨"BassButtonsModel", "put", "(IIIII)V"⟩, 18) := ⟨⟨by decide +kernel, by decide +kernel⟩, List.mem_of_getElem? (i := 520) (by decide +kernel), List.mem_of_getElem? (i := 622) (by decide +kernel), List.mem_of_getElem? (i := 623) (by decide +kernel)⟩
theorem lw_p25 : lw_okq (⟨"BassButtonsModel", "isBeat", "(I)Z"⟩, 18) := ⟨⟨by decide +kernel, by decide +kernel⟩, List.mem_of_getElem? (i := 520) (by decide +kernel), List.mem_of_getElem? (i := 630) (by decide +kernel), List.mem_of_getElem? (i := 631) (by decide +kernel)⟩
theorem lw_p26 : lw_okq (⟨"BassButtonsModel", "findGood", "(I)V"⟩, 18) := ⟨⟨by decide +kernel, by decide +kernel⟩, List.mem_of_getElem? (i := 520) (by decide +kernel), List.mem_of_getElem? (i := 646) (by decide +kernel), List.mem_of_getElem? (i := 647) (by decide +kernel)⟩
theorem lw_p27 : lw_okq (⟨"BassButtonsModel", "judgeAll", "(II)V"⟩, 18) := ⟨⟨by decide +kernel, by decide +kernel⟩, List.mem_of_getElem? (i := 520) (by decide +kernel), List.mem_of_getElem? (i := 650) (by decide +kernel), List.mem_of_getElem? (i := 651) (by decide +kernel)⟩
theorem lw_p28 : lw_okq (⟨"BassButtonsModel", "judge", "(IIII)V"⟩, 18) := ⟨⟨by decide +kernel, by decide +kernel⟩, List.mem_of_getElem? (i := 520) (by decide +kernel), List.mem_of_getElem? (i := 654) (by decide +kernel), List.mem_of_getElem? (i := 655) (by decide +kernel)⟩
theorem lw_p29 : lw_okq (⟨"BassButtonsModel", "press", "(I)V"⟩, 18) := ⟨⟨by decide +kernel, by decide +kernel⟩, List.mem_of_getElem? (i := 520) (by decide +kernel), List.mem_of_getElem? (i := 658) (by decide +kernel), List.mem_of_getElem? (i := 659) (by decide +kernel)⟩
theorem lw_p30 : lw_okq (⟨"BassButtonsModel", "isAhead", "(I)Z"⟩, 18) := ⟨⟨by decide +kernel, by decide +kernel⟩, List.mem_of_getElem? (i := 520) (by decide +kernel), List.mem_of_getElem? (i := 665) (by decide +kernel), List.mem_of_getElem? (i := 666) (by decide +kernel)⟩
theorem lw_p31 : lw_okq (⟨"BassButtonsModel", "findHand", "()V"⟩, 18) := ⟨⟨by decide +kernel, by decide +kernel⟩, List.mem_of_getElem? (i := 520) (by decide +kernel), List.mem_of_getElem? (i := 677) (by decide +kernel), List.mem_of_getElem? (i := 678) (by decide +kernel)⟩
def lw_privs_2 : List (MethodName × Nat) := [(⟨"BassButtons$Bellows", "priceOf", "(I)I"⟩, 6), (⟨"BassButtons", "setRegister", "(I)I"⟩, 6), (⟨"BassButtons", "setRoom", "(I)I"⟩, 6), (⟨"BassButtons", "setStart", "(I)I"⟩, 6), (⟨"BassButtons", "settleBeat", "(I)V"⟩, 6), (⟨"BassButtonsModel", "isThere", "(I)Z"⟩, 18), (⟨"BassButtonsModel", "soundOf", "(I)I"⟩, 18), (⟨"BassButtonsModel", "rootOf", "(I)I"⟩, 18), (⟨"BassButtonsModel", "put", "(IIIII)V"⟩, 18), (⟨"BassButtonsModel", "isBeat", "(I)Z"⟩, 18), (⟨"BassButtonsModel", "findGood", "(I)V"⟩, 18), (⟨"BassButtonsModel", "judgeAll", "(II)V"⟩, 18), (⟨"BassButtonsModel", "judge", "(IIII)V"⟩, 18), (⟨"BassButtonsModel", "press", "(I)V"⟩, 18), (⟨"BassButtonsModel", "isAhead", "(I)Z"⟩, 18), (⟨"BassButtonsModel", "findHand", "()V"⟩, 18)]
theorem lw_r2 : ∀ q ∈ lw_privs_2, lw_okq q := List.forall_mem_cons.mpr ⟨lw_p16, List.forall_mem_cons.mpr ⟨lw_p17, List.forall_mem_cons.mpr ⟨lw_p18, List.forall_mem_cons.mpr ⟨lw_p19, List.forall_mem_cons.mpr ⟨lw_p20, List.forall_mem_cons.mpr ⟨lw_p21, List.forall_mem_cons.mpr ⟨lw_p22, List.forall_mem_cons.mpr ⟨lw_p23, List.forall_mem_cons.mpr ⟨lw_p24, List.forall_mem_cons.mpr ⟨lw_p25, List.forall_mem_cons.mpr ⟨lw_p26, List.forall_mem_cons.mpr ⟨lw_p27, List.forall_mem_cons.mpr ⟨lw_p28, List.forall_mem_cons.mpr ⟨lw_p29, List.forall_mem_cons.mpr ⟨lw_p30, List.forall_mem_cons.mpr ⟨lw_p31, fun _ h => absurd h List.not_mem_nil⟩⟩⟩⟩⟩⟩⟩⟩⟩⟩⟩⟩⟩⟩⟩⟩
theorem lw_p32 : lw_okq (⟨"BassButtonsModel", "behind", "(II)I"⟩, 18) := ⟨⟨by decide +kernel, by decide +kernel⟩, List.mem_of_getElem? (i := 520) (by decide +kernel), List.mem_of_getElem? (i := 681) (by decide +kernel), List.mem_of_getElem? (i := 682) (by decide +kernel)⟩
theorem lw_p33 : lw_okq (⟨"BassButtonsModel", "nextWith", "(I)I"⟩, 18) := ⟨⟨by decide +kernel, by decide +kernel⟩, List.mem_of_getElem? (i := 520) (by decide +kernel), List.mem_of_getElem? (i := 685) (by decide +kernel), List.mem_of_getElem? (i := 686) (by decide +kernel)⟩
theorem lw_p34 : lw_okq (⟨"BassButtonsModel", "placeOf", "(II)I"⟩, 18) := ⟨⟨by decide +kernel, by decide +kernel⟩, List.mem_of_getElem? (i := 520) (by decide +kernel), List.mem_of_getElem? (i := 690) (by decide +kernel), List.mem_of_getElem? (i := 691) (by decide +kernel)⟩
theorem lw_p35 : lw_okq (⟨"BassButtonsModel", "heardAt", "(I)I"⟩, 18) := ⟨⟨by decide +kernel, by decide +kernel⟩, List.mem_of_getElem? (i := 520) (by decide +kernel), List.mem_of_getElem? (i := 705) (by decide +kernel), List.mem_of_getElem? (i := 706) (by decide +kernel)⟩
theorem lw_p36 : lw_okq (⟨"BassButtonsModel", "buttonAt", "(II)I"⟩, 18) := ⟨⟨by decide +kernel, by decide +kernel⟩, List.mem_of_getElem? (i := 520) (by decide +kernel), List.mem_of_getElem? (i := 713) (by decide +kernel), List.mem_of_getElem? (i := 714) (by decide +kernel)⟩
theorem lw_p37 : lw_okq (⟨"BassButtonsModel", "findUses", "()V"⟩, 18) := ⟨⟨by decide +kernel, by decide +kernel⟩, List.mem_of_getElem? (i := 520) (by decide +kernel), List.mem_of_getElem? (i := 721) (by decide +kernel), List.mem_of_getElem? (i := 722) (by decide +kernel)⟩
theorem lw_p38 : lw_okq (⟨"BassButtonsModel", "findWay", "(I)I"⟩, 18) := ⟨⟨by decide +kernel, by decide +kernel⟩, List.mem_of_getElem? (i := 520) (by decide +kernel), List.mem_of_getElem? (i := 729) (by decide +kernel), List.mem_of_getElem? (i := 730) (by decide +kernel)⟩
theorem lw_p39 : lw_okq (⟨"BassButtonsModel", "costOf", "(II)I"⟩, 18) := ⟨⟨by decide +kernel, by decide +kernel⟩, List.mem_of_getElem? (i := 520) (by decide +kernel), List.mem_of_getElem? (i := 733) (by decide +kernel), List.mem_of_getElem? (i := 734) (by decide +kernel)⟩
theorem lw_p40 : lw_okq (⟨"BassButtonsModel", "goesOut", "(II)Z"⟩, 18) := ⟨⟨by decide +kernel, by decide +kernel⟩, List.mem_of_getElem? (i := 520) (by decide +kernel), List.mem_of_getElem? (i := 737) (by decide +kernel), List.mem_of_getElem? (i := 738) (by decide +kernel)⟩
theorem lw_p41 : lw_okq (⟨"BassButtonsModel", "sum", "(I)I"⟩, 18) := ⟨⟨by decide +kernel, by decide +kernel⟩, List.mem_of_getElem? (i := 520) (by decide +kernel), List.mem_of_getElem? (i := 757) (by decide +kernel), List.mem_of_getElem? (i := 758) (by decide +kernel)⟩
theorem lw_p42 : lw_okq (⟨"BassButtonsModel", "turns", "()I"⟩, 18) := ⟨⟨by decide +kernel, by decide +kernel⟩, List.mem_of_getElem? (i := 520) (by decide +kernel), List.mem_of_getElem? (i := 762) (by decide +kernel), List.mem_of_getElem? (i := 763) (by decide +kernel)⟩
def lw_privs_3 : List (MethodName × Nat) := [(⟨"BassButtonsModel", "behind", "(II)I"⟩, 18), (⟨"BassButtonsModel", "nextWith", "(I)I"⟩, 18), (⟨"BassButtonsModel", "placeOf", "(II)I"⟩, 18), (⟨"BassButtonsModel", "heardAt", "(I)I"⟩, 18), (⟨"BassButtonsModel", "buttonAt", "(II)I"⟩, 18), (⟨"BassButtonsModel", "findUses", "()V"⟩, 18), (⟨"BassButtonsModel", "findWay", "(I)I"⟩, 18), (⟨"BassButtonsModel", "costOf", "(II)I"⟩, 18), (⟨"BassButtonsModel", "goesOut", "(II)Z"⟩, 18), (⟨"BassButtonsModel", "sum", "(I)I"⟩, 18), (⟨"BassButtonsModel", "turns", "()I"⟩, 18)]
theorem lw_r3 : ∀ q ∈ lw_privs_3, lw_okq q := List.forall_mem_cons.mpr ⟨lw_p32, List.forall_mem_cons.mpr ⟨lw_p33, List.forall_mem_cons.mpr ⟨lw_p34, List.forall_mem_cons.mpr ⟨lw_p35, List.forall_mem_cons.mpr ⟨lw_p36, List.forall_mem_cons.mpr ⟨lw_p37, List.forall_mem_cons.mpr ⟨lw_p38, List.forall_mem_cons.mpr ⟨lw_p39, List.forall_mem_cons.mpr ⟨lw_p40, List.forall_mem_cons.mpr ⟨lw_p41, List.forall_mem_cons.mpr ⟨lw_p42, fun _ h => absurd h List.not_mem_nil⟩⟩⟩⟩⟩⟩⟩⟩⟩⟩⟩
def lw_privs : List (MethodName × Nat) := lw_privs_1 ++ (lw_privs_2 ++ (lw_privs_3))
def lw_tbl : List Cond := k2_sels lw_privs ++ tables_1
theorem lw_privs_ok : ∀ q ∈ lw_privs, lw_okq q := by
  show ∀ q ∈ lw_privs_1 ++ (lw_privs_2 ++ (lw_privs_3)), lw_okq q
  exact List.forall_mem_append.mpr ⟨lw_r1, List.forall_mem_append.mpr ⟨lw_r2, lw_r3⟩⟩

/-- what the tables say of an array of arrays (its row of tables_1) -/
def va_AOA (t : FieldType) (U : State) : Prop := (Cond.arrayOver (.array t)).before #[] U = true
theorem va_AOA.use {t : FieldType} {A : Array Value} {U : State} (h : va_AOA t U) : (Cond.arrayOver (.array t)).before A U = true := h
/-! ===== BEGIN words of one list among another's, by their places ===== -/
theorem goodIn_r {big : List Cond} (ws : List Cond) (ps : List Nat) (hp : ws = ps.filterMap (fun i => big[i]?)) (h : ws.all goodWord = true) : GoodIn big ws := by
  intro w hw
  have h1 := List.all_eq_true.mp h w hw
  rw [hp] at hw
  obtain ⟨i, -, hi⟩ := List.mem_filterMap.mp hw
  have hm : w ∈ big := by first | exact List.mem_of_getElem? hi | exact List.getElem?_mem hi
  exact ⟨hm, good_of_word h1⟩
theorem goodIn_app {big a b : List Cond} (ha : GoodIn big a) (hb : GoodIn big b) : GoodIn big (a ++ b) := fun w h => (List.mem_append.mp h).elim (ha w) (hb w)
theorem goodIn_ca {big a b : List Cond} {c : Cond} (ha : GoodIn big (c :: a)) (hb : GoodIn big b) : GoodIn big (c :: (a ++ b)) := fun w h => (List.mem_cons.mp h).elim (fun e => ha w (List.mem_cons.mpr (Or.inl e))) (fun h => (List.mem_append.mp h).elim (fun h => ha w (List.mem_cons.mpr (Or.inr h))) (hb w))
theorem goodIn_sub {big ws : List Cond} (hm : ∀ w ∈ ws, w ∈ big) (h : ws.all goodWord = true) : GoodIn big ws := fun w hw => ⟨hm w hw, good_of_word (List.all_eq_true.mp h w hw)⟩
/-! ===== END ===== -/

/-! ===== BEGIN new T[n][m]: the outer array a place, the inner ones among the pooled ===== -/
/-- f, but v at every address of l -/
def vr_up {α : Type} (f : Nat → α) (l : List Nat) (v : α) : Nat → α := fun a => if a ∈ l then v else f a
theorem vr_up_in {α : Type} {f : Nat → α} {l : List Nat} {v : α} {a : Nat} (h : a ∈ l) : vr_up f l v a = v := if_pos h
theorem vr_up_ne {α : Type} {f : Nat → α} {l : List Nat} {v : α} {a : Nat} (h : a ∉ l) : vr_up f l v a = f a := if_neg h
theorem vr_rows {L l : List Nat} {f : Nat → va_E} {e : va_E} (h : ∀ a, a ∈ l → a ∉ L) : va_pl L f ++ l.map (fun a => (a, e)) = va_pl (L ++ l) (vr_up f l e) := by
  unfold va_pl
  rw [List.map_append]
  congr 1
  · apply List.map_congr_left
    intro a ha
    rw [vr_up_ne (fun q => h a q ha)]
  · apply List.map_congr_left
    intro a ha
    rw [vr_up_in ha]
theorem vr_lay {X rows : va_W} {x : Nat × va_E} {pl : va_W} {D : va_G} {cl : List vw_C} {H : Heap} (hP : va_P D cl (((X ++ pl) ++ [x]) ++ rows) H) : va_P D cl ((X ++ [x]) ++ (pl ++ rows)) H := by
  rw [List.append_assoc (X ++ pl)] at hP
  have h := va_P.swap hP
  rw [← List.append_assoc X] at h
  have h2 := va_P.swap h
  rw [List.append_assoc (X ++ [x])] at h2
  exact h2
theorem vr_layD {X rows : va_W} {x : Nat × va_E} {pl : va_W} {A : Nat → Prop} (hD : va_D A (((X ++ pl) ++ [x]) ++ rows)) : va_D A ((X ++ [x]) ++ (pl ++ rows)) := by
  rw [List.append_assoc (X ++ pl)] at hD
  have h := va_D.swap hD
  rw [← List.append_assoc X] at h
  have h2 := va_D.swap h
  rw [List.append_assoc (X ++ [x])] at h2
  exact h2
theorem vr_outer (c : ClassId) (N h0 : Nat) : ∀ i : Nat, Jvm.Free.Multi.outerC c N h0 i = arrV c N (fun j => va_rf (if j < i then some (h0 + 1 + j) else none))
  | 0 => by
    show ({ cls := c, slots := Array.replicate N .null, vm := .none } : Cell) = _
    rw [arrV_new]
    refine congrArg (arrV c N) (funext fun j => ?_)
    simp [va_rf]
  | i + 1 => by
    show (Jvm.Free.Multi.outerC c N h0 i).setSlot i (.ref (h0 + 1 + i)) = _
    rw [vr_outer c N h0 i, arrV_store]
    refine congrArg (arrV c N) (funext fun j => ?_)
    by_cases e : j = i
    · subst e
      simp [updV, va_rf]
    · by_cases h : j < i
      · simp [updV, e, h, Nat.lt_succ_of_lt h]
      · simp [updV, e, h, show ¬ j < i + 1 by omega]
section VGM
variable {p : Program} {l : Launch} {e : Env} {R : Room} {s : State} {m : MethodId} {args : Array Value} {below : List Frame} {meth : Method} {c : Code} {H : Heap} {locs : List Loc} {cells slots : Nat} {Q : State → Prop}
variable {cc : ByteArray} {pc : Nat} {ls : Array Slot} {rest : List Value} {D : va_G} {cl : List vw_C} {A : Nat → Prop} {a : Nat} {tys : List (ClassId × FieldType)} {ws : va_W} {H0 : Heap}
theorem va_mna {X : va_W} {L : List Nat} {f : Nat → va_E} {cc : ByteArray} (hexec : p.tables.exec = Jvm.exec) (hb : c.code = cc) {own : String} {index : Nat} {ty : FieldType} {cy : ClassId} (hown : s.vm.findClass own = some m.cls) (hclink : (Cond.classLink own index ("[" ++ (FieldType.array ty).toString)).before args s = true) (hover : va_AOA ty s) (harr : (Cond.arrayClass ty).before args s = true) (hcy : s.vm.findClass (FieldType.array ty).toString = some cy)
    (hK : va_K D cl tys s) (hP : va_P D cl (X ++ va_pl L f) H) (hD : va_D A (X ++ va_pl L f)) (hS : va_S A H0 H locs) (hA : ∀ q, H0.size ≤ q → A q) {n k : Int32} {N' K' : Nat} {z : vp_A} (hn : ¬ n < 0) (hk : ¬ k < 0) (hN : n.toNatClampNeg = N') (hM : k.toNatClampNeg = K')
    (hb1 : N' * 4 ≤ 536870912) (hb2 : K' * componentBytes ty ≤ 536870912) (hb3 : K' ≤ 536870912) (hdf : fits ty (defaultValue ty) = true) (hdd : (defaultValue ty).isDefault = true) (hcells : cells + (1 + N') ≤ R.cells) (hslots : slots + (N' + N' * K') ≤ R.slots) (hz : ∀ c : ClassId, Jvm.Free.Multi.innerC c K' (defaultValue ty) = vp_cell c z) (hdg : decode cc pc = .ok (.multianewarray index 2, 4))
    (kk : ∀ (q : Nat) (r : Nat → Nat) (cA : ClassId) (H1 : Heap), (∀ i j : Nat, i < N' → j < N' → r i = r j → i = j) → (∀ i : Nat, i < N' → r i ∉ L) → va_K D cl (tys ++ [(cA, .array ty)]) s →
      va_P D cl ((X ++ [(q, .inl (cA, N', .inr (.inr (.inr (.inr (fun i => if i < N' then some (r i) else none))))))]) ++ va_pl (L ++ (List.range N').map r) (vr_up f ((List.range N').map r) (.inl (cy, z)))) H1 → va_D A ((X ++ [(q, .inl (cA, N', .inr (.inr (.inr (.inr (fun i => if i < N' then some (r i) else none))))))]) ++ va_pl (L ++ (List.range N').map r) (vr_up f ((List.range N').map r) (.inl (cy, z)))) → va_S A H0 H1 locs →
      W p l e R s m args below meth c H1 locs (cells + 1 + N') (slots + N' + N' * K') Q (F0 m (pc + 4) ls (.ref q :: rest))) : W p l e R s m args below meth c H locs cells slots Q (F0 m pc ls (.int k :: .int n :: rest)) := by
  subst hN
  subst hM
  intro T hT Xs
  obtain ⟨vm₁, cA, comp, -, fA, fC, hO, -, X', step⟩ := Xs.multianewarray2F hexec hown hclink (va_AOA.use hover) harr (g := F0 m pc ls (.int k :: .int n :: rest)) rfl (by rw [hb]; exact hdg) rfl hn hk hb1 hb2 hb3 hdf hdd hcells hslots
  have ec : some cy = some comp := hcy.symm.trans fC
  cases ec
  generalize hF : Jvm.Free.Multi.fill (T.setVm vm₁) cA cy n.toNatClampNeg k.toNatClampNeg (defaultValue ty) n.toNatClampNeg = F at X' step
  have hTh : (T.setVm vm₁).heap = H := hT
  obtain ⟨f1, f2, -, -⟩ := Jvm.Free.Multi.fill_facts (T.setVm vm₁) cA cy n.toNatClampNeg k.toNatClampNeg (defaultValue ty) n.toNatClampNeg
  rw [hF, hTh] at f1 f2
  have hold : ∀ x : Nat, x < H.size → F.heap[x]? = H[x]? := fun x hx => by
    have := Jvm.Free.Multi.fill_old (T.setVm vm₁) cA cy n.toNatClampNeg k.toNatClampNeg (defaultValue ty) (a := x) (by rw [hTh]; exact hx) n.toNatClampNeg
    rw [hF, hTh] at this
    exact this
  have hrow : ∀ j : Nat, j < n.toNatClampNeg → F.heap[H.size + 1 + j]? = some (vp_cell cy z) := fun j hj => by
    have := Jvm.Free.Multi.fill_inner (T.setVm vm₁) cA cy n.toNatClampNeg k.toNatClampNeg (defaultValue ty) n.toNatClampNeg j hj
    rw [hF, hTh, hz] at this
    exact this
  have hout : Jvm.Free.Multi.outerC cA n.toNatClampNeg H.size n.toNatClampNeg = vp_cell cA (n.toNatClampNeg, .inr (.inr (.inr (.inr (fun i => if i < n.toNatClampNeg then some (H.size + 1 + i) else none))))) := by
    rw [vp_cell_q]
    exact vr_outer cA n.toNatClampNeg H.size n.toNatClampNeg
  rw [hout] at f2
  have hlt : ∀ a, a ∈ L → a < H.size := fun a ha => by
    obtain ⟨k9, hk9⟩ := va_pl_get (X := X) (f := f) ha
    exact (hP k9 _ hk9).lt
  have hnl : ∀ i : Nat, i < n.toNatClampNeg → H.size + 1 + i ∉ L := fun i _ h => by
    have := hlt _ h
    omega
  have hnm : ∀ a, a ∈ (List.range n.toNatClampNeg).map (fun i => H.size + 1 + i) → a ∉ L := fun a ha h => by
    obtain ⟨i, -, rfl⟩ := List.mem_map.mp ha
    have := hlt _ h
    omega
  have hP0 : va_P D cl (X ++ va_pl L f) F.heap := hP.kept (fun k9 x hx => hold x.1 ((hP k9 x hx).lt))
  have hP1 : va_P D cl ((X ++ va_pl L f) ++ [(H.size, .inl (cA, n.toNatClampNeg, .inr (.inr (.inr (.inr (fun i => if i < n.toNatClampNeg then some (H.size + 1 + i) else none))))))]) F.heap := hP0.app (fun k9 x hx => by
    have h0 : k9 < 1 := (List.getElem?_eq_some_iff.mp hx).1
    rw [show k9 = 0 by omega] at hx
    cases hx
    exact f2)
  have hP2 : va_P D cl (((X ++ va_pl L f) ++ [(H.size, .inl (cA, n.toNatClampNeg, .inr (.inr (.inr (.inr (fun i => if i < n.toNatClampNeg then some (H.size + 1 + i) else none))))))]) ++ ((List.range n.toNatClampNeg).map (fun i => H.size + 1 + i)).map (fun a => (a, .inl (cy, z)))) F.heap := hP1.app (fun k9 x hx => by
    obtain ⟨a, ha, rfl⟩ := List.mem_map.mp (List.mem_of_getElem? hx)
    obtain ⟨i, hi, rfl⟩ := List.mem_map.mp ha
    exact hrow i (List.mem_range.mp hi))
  have hD2 : va_D A (((X ++ va_pl L f) ++ [(H.size, .inl (cA, n.toNatClampNeg, .inr (.inr (.inr (.inr (fun i => if i < n.toNatClampNeg then some (H.size + 1 + i) else none))))))]) ++ ((List.range n.toNatClampNeg).map (fun i => H.size + 1 + i)).map (fun a => (a, .inl (cy, z)))) := by
    have hD1 := hD.push (e := .inl (cA, n.toNatClampNeg, .inr (.inr (.inr (.inr (fun i => if i < n.toNatClampNeg then some (H.size + 1 + i) else none)))))) hP rfl (hA _ hS.1)
    generalize hW1 : (X ++ va_pl L f) ++ [(H.size, .inl (cA, n.toNatClampNeg, .inr (.inr (.inr (.inr (fun i => if i < n.toNatClampNeg then some (H.size + 1 + i) else none))))))] = W1 at hD1 hP1 ⊢
    have hle : ∀ (k9 : Nat) (x : Nat × va_E), W1[k9]? = some x → x.1 ≤ H.size := fun k9 x hx => by
      rw [← hW1] at hx
      by_cases hl : k9 < (X ++ va_pl L f).length
      · rw [List.getElem?_append_left hl] at hx
        exact Nat.le_of_lt ((hP k9 x hx).lt)
      · rw [List.getElem?_append_right (by omega)] at hx
        have h0 : k9 - (X ++ va_pl L f).length < 1 := (List.getElem?_eq_some_iff.mp hx).1
        rw [show k9 - (X ++ va_pl L f).length = 0 by omega] at hx
        cases hx
        exact Nat.le_refl _
    have hr : ∀ (k9 : Nat) (x : Nat × va_E), (((List.range n.toNatClampNeg).map (fun i => H.size + 1 + i)).map (fun a => ((a, .inl (cy, z)) : Nat × va_E)))[k9]? = some x → x.1 = H.size + 1 + k9 := fun k9 x hx => by
      rw [List.getElem?_map, List.getElem?_map] at hx
      by_cases h9 : k9 < n.toNatClampNeg
      · rw [List.getElem?_range h9] at hx
        cases hx
        rfl
      · have hn0 : (List.range n.toNatClampNeg)[k9]? = none := List.getElem?_eq_none (by rw [List.length_range]; omega)
        rw [hn0] at hx
        cases hx
    refine ⟨fun i j x y hi hj hxy => ?_, fun k9 x hx => ?_⟩
    · by_cases h1 : i < W1.length <;> by_cases h2 : j < W1.length
      · rw [List.getElem?_append_left h1] at hi
        rw [List.getElem?_append_left h2] at hj
        exact hD1.1 i j x y hi hj hxy
      · rw [List.getElem?_append_left h1] at hi
        rw [List.getElem?_append_right (by omega)] at hj
        have := hle _ _ hi
        have := hr _ _ hj
        omega
      · rw [List.getElem?_append_right (by omega)] at hi
        rw [List.getElem?_append_left h2] at hj
        have := hle _ _ hj
        have := hr _ _ hi
        omega
      · rw [List.getElem?_append_right (by omega)] at hi hj
        have := hr _ _ hi
        have := hr _ _ hj
        omega
    · by_cases h1 : k9 < W1.length
      · rw [List.getElem?_append_left h1] at hx
        exact hD1.2 k9 x hx
      · rw [List.getElem?_append_right (by omega)] at hx
        have := hr _ _ hx
        exact hA _ (by have := hS.1; omega)
  have hAr : ArrOfT s cA (.array ty) := fun N9 z9 => by
    obtain ⟨-, k9, hk9, cm9, hkk9⟩ := (hO 0 0 0).1
    exact ⟨(fun q hq => by cases hq), k9, hk9, cm9, hkk9⟩
  have hK2 : va_K D cl (tys ++ [(cA, .array ty)]) s := ⟨hK.1, fun k9 x hx => by
    by_cases hl : k9 < tys.length
    · rw [List.getElem?_append_left hl] at hx
      exact hK.2 k9 x hx
    · rw [List.getElem?_append_right (by omega)] at hx
      have h0 : k9 - tys.length < 1 := (List.getElem?_eq_some_iff.mp hx).1
      rw [show k9 - tys.length = 0 by omega] at hx
      cases hx
      exact ⟨hAr, fA⟩⟩
  obtain ⟨t, a1, b1⟩ := kk H.size (fun i => H.size + 1 + i) cA F.heap (fun i j _ _ h => by have h9 : H.size + 1 + i = H.size + 1 + j := h; omega) hnl hK2 (by rw [← vr_rows hnm]; exact vr_lay hP2) (by rw [← vr_rows hnm]; exact vr_layD hD2) ⟨by rw [f1]; have := hS.1; omega, fun x h1 h2 => (hold x (Nat.lt_of_lt_of_le h1 hS.1)).trans (hS.2.1 x h1 h2), hS.2.2⟩ F rfl X'
  refine ⟨t, step t ?_, b1⟩
  have e : T.heap.size = H.size := by rw [hT]
  rw [e]
  exact a1
end VGM
/-! ===== END ===== -/

/-! ===== BEGIN printed: names, fields, word lists, decode rows ===== -/
def RX0 : String := "BassButtons$Bellows"
def TX0 : u_T := fun k => match k with
  | 0 => ("BassButtons$Bellows", "uses", "[I", true)
  | 1 => ("BassButtons$Bellows", "marks", "[I", true)
  | 2 => ("BassButtons$Bellows", "beats", "I", false)
  | 3 => ("BassButtons$Bellows", "way", "I", false)
  | 4 => ("BassButtons$Bellows", "price", "I", false)
  | _ => ("BassButtons$Bellows", "leastRoom", "I", false)
def tyX0 : Nat → FieldType := fun k => match k with
  | 0 => .array .int
  | 1 => .array .int
  | 2 => .int
  | 3 => .int
  | 4 => .int
  | _ => .int
abbrev wsX00 : List Cond := u_ws RX0 TX0 6
theorem nmX0 : ∀ a, a < 6 → ∀ b, b < 6 → a ≠ b → (TX0 a).2.1 ≠ (TX0 b).2.1 := by decide +kernel
theorem tyX0_ok : ∀ k, k < 6 → parseFieldDescriptor (TX0 k).2.2.1 = some (tyX0 k) := by decide +kernel
abbrev cX0_init : ByteArray := prog_2_method_1_code
def yX0_init : MethodName := ⟨RX0, "<init>", "()V"⟩
abbrev cX0_load : ByteArray := prog_2_method_2_code
def yX0_load : MethodName := ⟨RX0, "load", "(LBassButtons$Desk;LBassButtons$Hand;)V"⟩
abbrev cX0_choose : ByteArray := prog_2_method_3_code
def yX0_choose : MethodName := ⟨RX0, "choose", "(II)V"⟩
abbrev cX0_hasWay : ByteArray := prog_2_method_4_code
def yX0_hasWay : MethodName := ⟨RX0, "hasWay", "()Z"⟩
abbrev cX0_goesOut : ByteArray := prog_2_method_5_code
def yX0_goesOut : MethodName := ⟨RX0, "goesOut", "(II)Z"⟩
abbrev cX0_turnsAt : ByteArray := prog_2_method_6_code
def yX0_turnsAt : MethodName := ⟨RX0, "turnsAt", "(II)Z"⟩
abbrev cX0_turnsWhenTied : ByteArray := prog_2_method_7_code
def yX0_turnsWhenTied : MethodName := ⟨RX0, "turnsWhenTied", "(I)Z"⟩
abbrev cX0_airMoved : ByteArray := prog_2_method_8_code
def yX0_airMoved : MethodName := ⟨RX0, "airMoved", "(II)I"⟩
abbrev cX0_peakOf : ByteArray := prog_2_method_9_code
def yX0_peakOf : MethodName := ⟨RX0, "peakOf", "(II)I"⟩
abbrev cX0_priceOf : ByteArray := prog_2_method_10_code
def yX0_priceOf : MethodName := ⟨RX0, "priceOf", "(I)I"⟩
abbrev cX0_turnsOf : ByteArray := prog_2_method_11_code
def yX0_turnsOf : MethodName := ⟨RX0, "turnsOf", "(I)I"⟩
abbrev cX0_airBehind : ByteArray := prog_2_method_12_code
def yX0_airBehind : MethodName := ⟨RX0, "airBehind", "(II)I"⟩
def RX1 : String := "BassButtons$Board"
def TX1 : u_T := fun k => match k with
  | 0 => ("BassButtons$Board", "notes", "[I", true)
  | 1 => ("BassButtons$Board", "chordButtons", "[I", true)
  | _ => ("BassButtons$Board", "chordCount", "I", false)
def tyX1 : Nat → FieldType := fun k => match k with
  | 0 => .array .int
  | 1 => .array .int
  | _ => .int
abbrev wsX10 : List Cond := u_ws RX1 TX1 3
theorem nmX1 : ∀ a, a < 3 → ∀ b, b < 3 → a ≠ b → (TX1 a).2.1 ≠ (TX1 b).2.1 := by decide +kernel
theorem tyX1_ok : ∀ k, k < 3 → parseFieldDescriptor (TX1 k).2.2.1 = some (tyX1 k) := by decide +kernel
abbrev cX1_init : ByteArray := prog_3_method_1_code
def yX1_init : MethodName := ⟨RX1, "<init>", "()V"⟩
abbrev cX1_tune : ByteArray := prog_3_method_2_code
def yX1_tune : MethodName := ⟨RX1, "tune", "(II)V"⟩
abbrev cX1_raised : ByteArray := prog_3_method_3_code
def yX1_raised : MethodName := ⟨RX1, "raised", "(II)I"⟩
abbrev cX1_lowButton : ByteArray := prog_3_method_4_code
def yX1_lowButton : MethodName := ⟨RX1, "lowButton", "(II)I"⟩
def RX2 : String := "BassButtons$Desk"
def TX2 : u_T := fun k => match k with
  | 0 => ("BassButtons$Desk", "base", "I", false)
  | 1 => ("BassButtons$Desk", "rows", "I", false)
  | 2 => ("BassButtons$Desk", "register", "I", false)
  | 3 => ("BassButtons$Desk", "room", "I", false)
  | 4 => ("BassButtons$Desk", "start", "I", false)
  | 5 => ("BassButtons$Desk", "beats", "I", false)
  | 6 => ("BassButtons$Desk", "chords", "[I", true)
  | 7 => ("BassButtons$Desk", "lows", "[I", true)
  | 8 => ("BassButtons$Desk", "lengths", "[I", true)
  | _ => ("BassButtons$Desk", "marks", "[I", true)
def tyX2 : Nat → FieldType := fun k => match k with
  | 0 => .int
  | 1 => .int
  | 2 => .int
  | 3 => .int
  | 4 => .int
  | 5 => .int
  | 6 => .array .int
  | 7 => .array .int
  | 8 => .array .int
  | _ => .array .int
abbrev wsX20 : List Cond := u_ws RX2 TX2 10
theorem nmX2 : ∀ a, a < 10 → ∀ b, b < 10 → a ≠ b → (TX2 a).2.1 ≠ (TX2 b).2.1 := by decide +kernel
theorem tyX2_ok : ∀ k, k < 10 → parseFieldDescriptor (TX2 k).2.2.1 = some (tyX2 k) := by decide +kernel
abbrev cX2_init : ByteArray := prog_4_method_1_code
def yX2_init : MethodName := ⟨RX2, "<init>", "()V"⟩
abbrev cX2_has : ByteArray := prog_4_method_2_code
def yX2_has : MethodName := ⟨RX2, "has", "(I)Z"⟩
abbrev cX2_write : ByteArray := prog_4_method_3_code
def yX2_write : MethodName := ⟨RX2, "write", "(IIIII)V"⟩
abbrev cX2_copyFrom : ByteArray := prog_4_method_4_code
def yX2_copyFrom : MethodName := ⟨RX2, "copyFrom", "(LBassButtons$Desk;)V"⟩
def RX3 : String := "BassButtons$Goods"
def TX3 : u_T := fun k => match k with
  | 0 => ("BassButtons$Goods", "codes", "[I", true)
  | 1 => ("BassButtons$Goods", "count", "I", false)
  | 2 => ("BassButtons$Goods", "size", "I", false)
  | 3 => ("BassButtons$Goods", "lack", "I", false)
  | 4 => ("BassButtons$Goods", "extra", "I", false)
  | 5 => ("BassButtons$Goods", "wanted", "I", false)
  | 6 => ("BassButtons$Goods", "counterButton", "I", false)
  | 7 => ("BassButtons$Goods", "bassButton", "I", false)
  | _ => ("BassButtons$Goods", "bestRank", "I", false)
def tyX3 : Nat → FieldType := fun k => match k with
  | 0 => .array .int
  | 1 => .int
  | 2 => .int
  | 3 => .int
  | 4 => .int
  | 5 => .int
  | 6 => .int
  | 7 => .int
  | _ => .int
abbrev wsX30 : List Cond := u_ws RX3 TX3 9
theorem nmX3 : ∀ a, a < 9 → ∀ b, b < 9 → a ≠ b → (TX3 a).2.1 ≠ (TX3 b).2.1 := by decide +kernel
theorem tyX3_ok : ∀ k, k < 9 → parseFieldDescriptor (TX3 k).2.2.1 = some (tyX3 k) := by decide +kernel
abbrev cX3_init : ByteArray := prog_5_method_1_code
def yX3_init : MethodName := ⟨RX3, "<init>", "()V"⟩
abbrev cX3_find : ByteArray := prog_5_method_2_code
def yX3_find : MethodName := ⟨RX3, "find", "(LBassButtons$Board;II)V"⟩
abbrev cX3_hasLowButton : ByteArray := prog_5_method_3_code
def yX3_hasLowButton : MethodName := ⟨RX3, "hasLowButton", "()Z"⟩
abbrev cX3_offerSingles : ByteArray := prog_5_method_4_code
def yX3_offerSingles : MethodName := ⟨RX3, "offerSingles", "(LBassButtons$Board;)V"⟩
abbrev cX3_offerPairs : ByteArray := prog_5_method_5_code
def yX3_offerPairs : MethodName := ⟨RX3, "offerPairs", "(LBassButtons$Board;)V"⟩
abbrev cX3_offer : ByteArray := prog_5_method_6_code
def yX3_offer : MethodName := ⟨RX3, "offer", "(IIII)V"⟩
abbrev cX3_takeWithLow : ByteArray := prog_5_method_7_code
def yX3_takeWithLow : MethodName := ⟨RX3, "takeWithLow", "(II)V"⟩
abbrev cX3_packed : ByteArray := prog_5_method_8_code
def yX3_packed : MethodName := ⟨RX3, "packed", "(III)I"⟩
abbrev cX3_insert : ByteArray := prog_5_method_9_code
def yX3_insert : MethodName := ⟨RX3, "insert", "(I)V"⟩
abbrev cX3_buttonAt : ByteArray := prog_5_method_10_code
def yX3_buttonAt : MethodName := ⟨RX3, "buttonAt", "(II)I"⟩
abbrev cX3_placeOf : ByteArray := prog_5_method_11_code
def yX3_placeOf : MethodName := ⟨RX3, "placeOf", "(I)I"⟩
def RX4 : String := "BassButtons$Hand"
def TX4 : u_T := fun k => match k with
  | 0 => ("BassButtons$Hand", "board", "LBassButtons$Board;", true)
  | 1 => ("BassButtons$Hand", "goods", "[LBassButtons$Goods;", true)
  | 2 => ("BassButtons$Hand", "chosen", "[I", true)
  | 3 => ("BassButtons$Hand", "jumped", "I", false)
  | _ => ("BassButtons$Hand", "jumpsToCome", "[[I", true)
def tyX4 : Nat → FieldType := fun k => match k with
  | 0 => .object "BassButtons$Board"
  | 1 => .array (.object "BassButtons$Goods")
  | 2 => .array .int
  | 3 => .int
  | _ => .array (.array .int)
abbrev wsX40 : List Cond := u_ws RX4 TX4 5
theorem nmX4 : ∀ a, a < 5 → ∀ b, b < 5 → a ≠ b → (TX4 a).2.1 ≠ (TX4 b).2.1 := by decide +kernel
theorem tyX4_ok : ∀ k, k < 5 → parseFieldDescriptor (TX4 k).2.2.1 = some (tyX4 k) := by decide +kernel
abbrev cX4_init : ByteArray := prog_6_method_1_code
def yX4_init : MethodName := ⟨RX4, "<init>", "()V"⟩
abbrev cX4_learn : ByteArray := prog_6_method_2_code
def yX4_learn : MethodName := ⟨RX4, "learn", "(IILBassButtons$Desk;)V"⟩
abbrev cX4_choose : ByteArray := prog_6_method_3_code
def yX4_choose : MethodName := ⟨RX4, "choose", "(I)V"⟩
abbrev cX4_lookAhead : ByteArray := prog_6_method_4_code
def yX4_lookAhead : MethodName := ⟨RX4, "lookAhead", "(I)V"⟩
abbrev cX4_fewestOnward : ByteArray := prog_6_method_5_code
def yX4_fewestOnward : MethodName := ⟨RX4, "fewestOnward", "(II)I"⟩
abbrev cX4_firstBest : ByteArray := prog_6_method_6_code
def yX4_firstBest : MethodName := ⟨RX4, "firstBest", "(II)I"⟩
abbrev cX4_jumpFromChosen : ByteArray := prog_6_method_7_code
def yX4_jumpFromChosen : MethodName := ⟨RX4, "jumpFromChosen", "(III)I"⟩
abbrev cX4_notesOf : ByteArray := prog_6_method_8_code
def yX4_notesOf : MethodName := ⟨RX4, "notesOf", "(I)I"⟩
abbrev cX4_hasSameButtons : ByteArray := prog_6_method_9_code
def yX4_hasSameButtons : MethodName := ⟨RX4, "hasSameButtons", "(LBassButtons$Hand;I)Z"⟩
abbrev cX4_lackOfAll : ByteArray := prog_6_method_10_code
def yX4_lackOfAll : MethodName := ⟨RX4, "lackOfAll", "(I)I"⟩
abbrev cX4_extraOfAll : ByteArray := prog_6_method_11_code
def yX4_extraOfAll : MethodName := ⟨RX4, "extraOfAll", "(I)I"⟩
abbrev cX4_buttonsOfAll : ByteArray := prog_6_method_12_code
def yX4_buttonsOfAll : MethodName := ⟨RX4, "buttonsOfAll", "(I)I"⟩
def RX5 : String := "BassButtons"
def TX5 : u_T := fun k => match k with
  | 0 => ("BassButtons", "desk", "LBassButtons$Desk;", true)
  | 1 => ("BassButtons", "keptDesk", "LBassButtons$Desk;", true)
  | 2 => ("BassButtons", "isKept", "Z", false)
  | 3 => ("BassButtons", "playing", "LBassButtons$Hand;", true)
  | 4 => ("BassButtons", "supposed", "LBassButtons$Hand;", true)
  | _ => ("BassButtons", "pumping", "LBassButtons$Bellows;", true)
def tyX5 : Nat → FieldType := fun k => match k with
  | 0 => .object "BassButtons$Desk"
  | 1 => .object "BassButtons$Desk"
  | 2 => .boolean
  | 3 => .object "BassButtons$Hand"
  | 4 => .object "BassButtons$Hand"
  | _ => .object "BassButtons$Bellows"
abbrev wsX50 : List Cond := u_ws RX5 TX5 6
theorem nmX5 : ∀ a, a < 6 → ∀ b, b < 6 → a ≠ b → (TX5 a).2.1 ≠ (TX5 b).2.1 := by decide +kernel
theorem tyX5_ok : ∀ k, k < 6 → parseFieldDescriptor (TX5 k).2.2.1 = some (tyX5 k) := by decide +kernel
abbrev cX5_init : ByteArray := prog_1_method_1_code
def yX5_init : MethodName := ⟨RX5, "<init>", "()V"⟩
abbrev cX5_system : ByteArray := prog_1_method_2_code
def yX5_system : MethodName := ⟨RX5, "system", "(II)I"⟩
abbrev cX5_sound : ByteArray := prog_1_method_3_code
def yX5_sound : MethodName := ⟨RX5, "sound", "(I)I"⟩
abbrev cX5_root : ByteArray := prog_1_method_4_code
def yX5_root : MethodName := ⟨RX5, "root", "(I)I"⟩
abbrev cX5_rule : ByteArray := prog_1_method_5_code
def yX5_rule : MethodName := ⟨RX5, "rule", "(II)I"⟩
abbrev cX5_beat : ByteArray := prog_1_method_6_code
def yX5_beat : MethodName := ⟨RX5, "beat", "(IIII)I"⟩
abbrev cX5_alter : ByteArray := prog_1_method_7_code
def yX5_alter : MethodName := ⟨RX5, "alter", "(IIIII)I"⟩
abbrev cX5_drop : ByteArray := prog_1_method_8_code
def yX5_drop : MethodName := ⟨RX5, "drop", "()I"⟩
abbrev cX5_of : ByteArray := prog_1_method_9_code
def yX5_of : MethodName := ⟨RX5, "of", "(II)I"⟩
abbrev cX5_good : ByteArray := prog_1_method_10_code
def yX5_good : MethodName := ⟨RX5, "good", "(II)I"⟩
abbrev cX5_button : ByteArray := prog_1_method_11_code
def yX5_button : MethodName := ⟨RX5, "button", "(III)I"⟩
abbrev cX5_hand : ByteArray := prog_1_method_12_code
def yX5_hand : MethodName := ⟨RX5, "hand", "(I)I"⟩
abbrev cX5_jumps : ByteArray := prog_1_method_13_code
def yX5_jumps : MethodName := ⟨RX5, "jumps", "()I"⟩
abbrev cX5_sounds : ByteArray := prog_1_method_14_code
def yX5_sounds : MethodName := ⟨RX5, "sounds", "(I)I"⟩
abbrev cX5_changed : ByteArray := prog_1_method_15_code
def yX5_changed : MethodName := ⟨RX5, "changed", "(II)I"⟩
abbrev cX5_use : ByteArray := prog_1_method_16_code
def yX5_use : MethodName := ⟨RX5, "use", "(I)I"⟩
abbrev cX5_bellows : ByteArray := prog_1_method_17_code
def yX5_bellows : MethodName := ⟨RX5, "bellows", "(I)I"⟩
abbrev cX5_air : ByteArray := prog_1_method_18_code
def yX5_air : MethodName := ⟨RX5, "air", "(I)I"⟩
abbrev cX5_cost : ByteArray := prog_1_method_19_code
def yX5_cost : MethodName := ⟨RX5, "cost", "()I"⟩
abbrev cX5_wants : ByteArray := prog_1_method_20_code
def yX5_wants : MethodName := ⟨RX5, "wants", "()I"⟩
abbrev cX5_many : ByteArray := prog_1_method_21_code
def yX5_many : MethodName := ⟨RX5, "many", "(I)I"⟩
abbrev cX5_keep : ByteArray := prog_1_method_22_code
def yX5_keep : MethodName := ⟨RX5, "keep", "()I"⟩
abbrev cX5_back : ByteArray := prog_1_method_23_code
def yX5_back : MethodName := ⟨RX5, "back", "()I"⟩
abbrev cX5_isSystem : ByteArray := prog_1_method_24_code
def yX5_isSystem : MethodName := ⟨RX5, "isSystem", "(II)Z"⟩
abbrev cX5_isBeat : ByteArray := prog_1_method_25_code
def yX5_isBeat : MethodName := ⟨RX5, "isBeat", "(IIII)Z"⟩
abbrev cX5_rootOf : ByteArray := prog_1_method_26_code
def yX5_rootOf : MethodName := ⟨RX5, "rootOf", "(II)I"⟩
abbrev cX5_setRegister : ByteArray := prog_1_method_27_code
def yX5_setRegister : MethodName := ⟨RX5, "setRegister", "(I)I"⟩
abbrev cX5_setRoom : ByteArray := prog_1_method_28_code
def yX5_setRoom : MethodName := ⟨RX5, "setRoom", "(I)I"⟩
abbrev cX5_setStart : ByteArray := prog_1_method_29_code
def yX5_setStart : MethodName := ⟨RX5, "setStart", "(I)I"⟩
abbrev cX5_settleBeat : ByteArray := prog_1_method_30_code
def yX5_settleBeat : MethodName := ⟨RX5, "settleBeat", "(I)V"⟩
abbrev cX5_settleHand : ByteArray := prog_1_method_31_code
def yX5_settleHand : MethodName := ⟨RX5, "settleHand", "()V"⟩
abbrev cX5_settleBellows : ByteArray := prog_1_method_32_code
def yX5_settleBellows : MethodName := ⟨RX5, "settleBellows", "()V"⟩
def RX6 : String := "BassButtonsModel"
def TX6 : u_T := fun k => match k with
  | 0 => ("BassButtonsModel", "numbers", "[I", true)
  | 1 => ("BassButtonsModel", "beats", "[I", true)
  | 2 => ("BassButtonsModel", "isKept", "Z", false)
  | 3 => ("BassButtonsModel", "kept", "[I", true)
  | 4 => ("BassButtonsModel", "lacks", "[I", true)
  | 5 => ("BassButtonsModel", "extras", "[I", true)
  | 6 => ("BassButtonsModel", "sizes", "[I", true)
  | 7 => ("BassButtonsModel", "goodMany", "[I", true)
  | 8 => ("BassButtonsModel", "goods", "[I", true)
  | 9 => ("BassButtonsModel", "tried", "[I", true)
  | 10 => ("BassButtonsModel", "triedMany", "I", false)
  | 11 => ("BassButtonsModel", "fewest", "[I", true)
  | 12 => ("BassButtonsModel", "hand", "[I", true)
  | 13 => ("BassButtonsModel", "jumps", "I", false)
  | 14 => ("BassButtonsModel", "before", "[I", true)
  | 15 => ("BassButtonsModel", "uses", "[I", true)
  | 16 => ("BassButtonsModel", "marked", "[I", true)
  | _ => ("BassButtonsModel", "bestCost", "I", false)
def tyX6 : Nat → FieldType := fun k => match k with
  | 0 => .array .int
  | 1 => .array .int
  | 2 => .boolean
  | 3 => .array .int
  | 4 => .array .int
  | 5 => .array .int
  | 6 => .array .int
  | 7 => .array .int
  | 8 => .array .int
  | 9 => .array .int
  | 10 => .int
  | 11 => .array .int
  | 12 => .array .int
  | 13 => .int
  | 14 => .array .int
  | 15 => .array .int
  | 16 => .array .int
  | _ => .int
abbrev wsX60 : List Cond := u_ws RX6 TX6 18
theorem nmX6 : ∀ a, a < 18 → ∀ b, b < 18 → a ≠ b → (TX6 a).2.1 ≠ (TX6 b).2.1 := by decide +kernel
theorem tyX6_ok : ∀ k, k < 18 → parseFieldDescriptor (TX6 k).2.2.1 = some (tyX6 k) := by decide +kernel
abbrev cX6_init : ByteArray := prog_8_method_1_code
def yX6_init : MethodName := ⟨RX6, "<init>", "()V"⟩
abbrev cX6_in : ByteArray := prog_8_method_2_code
def yX6_in : MethodName := ⟨RX6, "in", "(III)Z"⟩
abbrev cX6_isBeat : ByteArray := prog_8_method_3_code
def yX6_isBeat : MethodName := ⟨RX6, "isBeat", "(I)Z"⟩
abbrev cX6_isSystem : ByteArray := prog_8_method_4_code
def yX6_isSystem : MethodName := ⟨RX6, "isSystem", "(II)Z"⟩
abbrev cX6_system : ByteArray := prog_8_method_5_code
def yX6_system : MethodName := ⟨RX6, "system", "(II)I"⟩
abbrev cX6_rootOf : ByteArray := prog_8_method_6_code
def yX6_rootOf : MethodName := ⟨RX6, "rootOf", "(I)I"⟩
abbrev cX6_isThere : ByteArray := prog_8_method_7_code
def yX6_isThere : MethodName := ⟨RX6, "isThere", "(I)Z"⟩
abbrev cX6_soundOf : ByteArray := prog_8_method_8_code
def yX6_soundOf : MethodName := ⟨RX6, "soundOf", "(I)I"⟩
abbrev cX6_sound : ByteArray := prog_8_method_9_code
def yX6_sound : MethodName := ⟨RX6, "sound", "(I)I"⟩
abbrev cX6_root : ByteArray := prog_8_method_10_code
def yX6_root : MethodName := ⟨RX6, "root", "(I)I"⟩
abbrev cX6_rule : ByteArray := prog_8_method_11_code
def yX6_rule : MethodName := ⟨RX6, "rule", "(II)I"⟩
abbrev cX6_isTold : ByteArray := prog_8_method_12_code
def yX6_isTold : MethodName := ⟨RX6, "isTold", "(IIII)Z"⟩
abbrev cX6_put : ByteArray := prog_8_method_13_code
def yX6_put : MethodName := ⟨RX6, "put", "(IIIII)V"⟩
abbrev cX6_beat : ByteArray := prog_8_method_14_code
def yX6_beat : MethodName := ⟨RX6, "beat", "(IIII)I"⟩
abbrev cX6_alter : ByteArray := prog_8_method_15_code
def yX6_alter : MethodName := ⟨RX6, "alter", "(IIIII)I"⟩
abbrev cX6_drop : ByteArray := prog_8_method_16_code
def yX6_drop : MethodName := ⟨RX6, "drop", "()I"⟩
abbrev cX6_of : ByteArray := prog_8_method_17_code
def yX6_of : MethodName := ⟨RX6, "of", "(II)I"⟩
abbrev cX6_ones : ByteArray := prog_8_method_18_code
def yX6_ones : MethodName := ⟨RX6, "ones", "(I)I"⟩
abbrev cX6_press : ByteArray := prog_8_method_19_code
def yX6_press : MethodName := ⟨RX6, "press", "(I)V"⟩
abbrev cX6_isAhead : ByteArray := prog_8_method_20_code
def yX6_isAhead : MethodName := ⟨RX6, "isAhead", "(I)Z"⟩
abbrev cX6_judge : ByteArray := prog_8_method_21_code
def yX6_judge : MethodName := ⟨RX6, "judge", "(IIII)V"⟩
abbrev cX6_judgeAll : ByteArray := prog_8_method_22_code
def yX6_judgeAll : MethodName := ⟨RX6, "judgeAll", "(II)V"⟩
abbrev cX6_findGood : ByteArray := prog_8_method_23_code
def yX6_findGood : MethodName := ⟨RX6, "findGood", "(I)V"⟩
abbrev cX6_good : ByteArray := prog_8_method_24_code
def yX6_good : MethodName := ⟨RX6, "good", "(II)I"⟩
abbrev cX6_button : ByteArray := prog_8_method_25_code
def yX6_button : MethodName := ⟨RX6, "button", "(III)I"⟩
abbrev cX6_placeOf : ByteArray := prog_8_method_26_code
def yX6_placeOf : MethodName := ⟨RX6, "placeOf", "(II)I"⟩
abbrev cX6_away : ByteArray := prog_8_method_27_code
def yX6_away : MethodName := ⟨RX6, "away", "(II)I"⟩
abbrev cX6_nextWith : ByteArray := prog_8_method_28_code
def yX6_nextWith : MethodName := ⟨RX6, "nextWith", "(I)I"⟩
abbrev cX6_behind : ByteArray := prog_8_method_29_code
def yX6_behind : MethodName := ⟨RX6, "behind", "(II)I"⟩
abbrev cX6_findHand : ByteArray := prog_8_method_30_code
def yX6_findHand : MethodName := ⟨RX6, "findHand", "()V"⟩
abbrev cX6_hand : ByteArray := prog_8_method_31_code
def yX6_hand : MethodName := ⟨RX6, "hand", "(I)I"⟩
abbrev cX6_jumps : ByteArray := prog_8_method_32_code
def yX6_jumps : MethodName := ⟨RX6, "jumps", "()I"⟩
abbrev cX6_heardAt : ByteArray := prog_8_method_33_code
def yX6_heardAt : MethodName := ⟨RX6, "heardAt", "(I)I"⟩
abbrev cX6_sounds : ByteArray := prog_8_method_34_code
def yX6_sounds : MethodName := ⟨RX6, "sounds", "(I)I"⟩
abbrev cX6_buttonAt : ByteArray := prog_8_method_35_code
def yX6_buttonAt : MethodName := ⟨RX6, "buttonAt", "(II)I"⟩
abbrev cX6_changed : ByteArray := prog_8_method_36_code
def yX6_changed : MethodName := ⟨RX6, "changed", "(II)I"⟩
abbrev cX6_findUses : ByteArray := prog_8_method_37_code
def yX6_findUses : MethodName := ⟨RX6, "findUses", "()V"⟩
abbrev cX6_use : ByteArray := prog_8_method_38_code
def yX6_use : MethodName := ⟨RX6, "use", "(I)I"⟩
abbrev cX6_costOf : ByteArray := prog_8_method_39_code
def yX6_costOf : MethodName := ⟨RX6, "costOf", "(II)I"⟩
abbrev cX6_findWay : ByteArray := prog_8_method_40_code
def yX6_findWay : MethodName := ⟨RX6, "findWay", "(I)I"⟩
abbrev cX6_goesOut : ByteArray := prog_8_method_41_code
def yX6_goesOut : MethodName := ⟨RX6, "goesOut", "(II)Z"⟩
abbrev cX6_bellows : ByteArray := prog_8_method_42_code
def yX6_bellows : MethodName := ⟨RX6, "bellows", "(I)I"⟩
abbrev cX6_air : ByteArray := prog_8_method_43_code
def yX6_air : MethodName := ⟨RX6, "air", "(I)I"⟩
abbrev cX6_cost : ByteArray := prog_8_method_44_code
def yX6_cost : MethodName := ⟨RX6, "cost", "()I"⟩
abbrev cX6_wants : ByteArray := prog_8_method_45_code
def yX6_wants : MethodName := ⟨RX6, "wants", "()I"⟩
abbrev cX6_sum : ByteArray := prog_8_method_46_code
def yX6_sum : MethodName := ⟨RX6, "sum", "(I)I"⟩
abbrev cX6_turns : ByteArray := prog_8_method_47_code
def yX6_turns : MethodName := ⟨RX6, "turns", "()I"⟩
abbrev cX6_many : ByteArray := prog_8_method_48_code
def yX6_many : MethodName := ⟨RX6, "many", "(I)I"⟩
abbrev cX6_keep : ByteArray := prog_8_method_49_code
def yX6_keep : MethodName := ⟨RX6, "keep", "()I"⟩
abbrev cX6_back : ByteArray := prog_8_method_50_code
def yX6_back : MethodName := ⟨RX6, "back", "()I"⟩
def RJ6 : String := "java/lang/Integer"
def TJ6 : u_T := fun k => match k with
  | _ => ("", "", "", false)
def tyJ6 : Nat → FieldType := fun k => match k with
  | _ => .int
abbrev wsJ60 : List Cond := u_ws RJ6 TJ6 0
theorem nmJ6 : ∀ a, a < 0 → ∀ b, b < 0 → a ≠ b → (TJ6 a).2.1 ≠ (TJ6 b).2.1 := by decide +kernel
theorem tyJ6_ok : ∀ k, k < 0 → parseFieldDescriptor (TJ6 k).2.2.1 = some (tyJ6 k) := by decide +kernel
abbrev cJ6_bitCount_0f7a4 : ByteArray := prog_9_method_49_code
def yJ6_bitCount_0f7a4 : MethodName := ⟨RJ6, "bitCount", "(I)I"⟩
def RJ9 : String := "java/lang/Math"
def TJ9 : u_T := fun k => match k with
  | _ => ("", "", "", false)
def tyJ9 : Nat → FieldType := fun k => match k with
  | _ => .int
abbrev wsJ90 : List Cond := u_ws RJ9 TJ9 0
theorem nmJ9 : ∀ a, a < 0 → ∀ b, b < 0 → a ≠ b → (TJ9 a).2.1 ≠ (TJ9 b).2.1 := by decide +kernel
theorem tyJ9_ok : ∀ k, k < 0 → parseFieldDescriptor (TJ9 k).2.2.1 = some (tyJ9 k) := by decide +kernel
abbrev cJ9_abs_0f7a4 : ByteArray := prog_10_method_59_code
def yJ9_abs_0f7a4 : MethodName := ⟨RJ9, "abs", "(I)I"⟩
abbrev cJ9_max_7cf53 : ByteArray := prog_10_method_65_code
def yJ9_max_7cf53 : MethodName := ⟨RJ9, "max", "(II)I"⟩
abbrev cJ9_min_7cf53 : ByteArray := prog_10_method_69_code
def yJ9_min_7cf53 : MethodName := ⟨RJ9, "min", "(II)I"⟩
def RL : String := "BassButtonsLaw"
abbrev cL_law : ByteArray := code
def yL_law : MethodName := ⟨RL, "law", "([I)Z"⟩

