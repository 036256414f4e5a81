section
-- ===== PART A: goes FIRST, ahead of the names: the tables' words, and 'selects' of the private methods out of them =====
/-- a private method of a class that the tables say can be made, by its rows of tables_1 -/
def lw_okq (q : MethodName × Nat) : Prop := (q.1.cls ≠ "java/lang/invoke/MethodHandle" ∧ q.1.cls ≠ "java/lang/invoke/VarHandle") ∧ Cond.instantiable q.1.cls q.2 ∈ tables_1 ∧ Cond.privateMethod q.1 ∈ tables_1 ∧ Cond.instanceMethod q.1 ∈ tables_1
theorem lw_p0 : lw_okq (⟨"BassButtons$Goods", "offer", "(IIII)V"⟩, 9) := ⟨⟨by decide +kernel, by decide +kernel⟩, List.mem_of_getElem? (i := 104) (by decide +kernel), List.mem_of_getElem? (i := 221) (by decide +kernel), List.mem_of_getElem? (i := 222) (by decide +kernel)⟩
theorem lw_p1 : lw_okq (⟨"BassButtons$Goods", "takeWithLow", "(II)V"⟩, 9) := ⟨⟨by decide +kernel, by decide +kernel⟩, List.mem_of_getElem? (i := 104) (by decide +kernel), List.mem_of_getElem? (i := 231) (by decide +kernel), List.mem_of_getElem? (i := 232) (by decide +kernel)⟩
theorem lw_p2 : lw_okq (⟨"BassButtons$Goods", "hasLowButton", "()Z"⟩, 9) := ⟨⟨by decide +kernel, by decide +kernel⟩, List.mem_of_getElem? (i := 104) (by decide +kernel), List.mem_of_getElem? (i := 235) (by decide +kernel), List.mem_of_getElem? (i := 236) (by decide +kernel)⟩
theorem lw_p3 : lw_okq (⟨"BassButtons$Goods", "insert", "(I)V"⟩, 9) := ⟨⟨by decide +kernel, by decide +kernel⟩, List.mem_of_getElem? (i := 104) (by decide +kernel), List.mem_of_getElem? (i := 248) (by decide +kernel), List.mem_of_getElem? (i := 249) (by decide +kernel)⟩
theorem lw_p4 : lw_okq (⟨"BassButtons$Goods", "offerSingles", "(LBassButtons$Board;)V"⟩, 9) := ⟨⟨by decide +kernel, by decide +kernel⟩, List.mem_of_getElem? (i := 104) (by decide +kernel), List.mem_of_getElem? (i := 252) (by decide +kernel), List.mem_of_getElem? (i := 253) (by decide +kernel)⟩
theorem lw_p5 : lw_okq (⟨"BassButtons$Goods", "offerPairs", "(LBassButtons$Board;)V"⟩, 9) := ⟨⟨by decide +kernel, by decide +kernel⟩, List.mem_of_getElem? (i := 104) (by decide +kernel), List.mem_of_getElem? (i := 256) (by decide +kernel), List.mem_of_getElem? (i := 257) (by decide +kernel)⟩
theorem lw_p6 : lw_okq (⟨"BassButtons", "settleHand", "()V"⟩, 6) := ⟨⟨by decide +kernel, by decide +kernel⟩, List.mem_of_getElem? (i := 11) (by decide +kernel), List.mem_of_getElem? (i := 260) (by decide +kernel), List.mem_of_getElem? (i := 261) (by decide +kernel)⟩
theorem lw_p7 : lw_okq (⟨"BassButtons$Hand", "lookAhead", "(I)V"⟩, 5) := ⟨⟨by decide +kernel, by decide +kernel⟩, List.mem_of_getElem? (i := 74) (by decide +kernel), List.mem_of_getElem? (i := 268) (by decide +kernel), List.mem_of_getElem? (i := 269) (by decide +kernel)⟩
theorem lw_p8 : lw_okq (⟨"BassButtons$Hand", "fewestOnward", "(II)I"⟩, 5) := ⟨⟨by decide +kernel, by decide +kernel⟩, List.mem_of_getElem? (i := 74) (by decide +kernel), List.mem_of_getElem? (i := 280) (by decide +kernel), List.mem_of_getElem? (i := 281) (by decide +kernel)⟩
theorem lw_p9 : lw_okq (⟨"BassButtons$Hand", "firstBest", "(II)I"⟩, 5) := ⟨⟨by decide +kernel, by decide +kernel⟩, List.mem_of_getElem? (i := 74) (by decide +kernel), List.mem_of_getElem? (i := 289) (by decide +kernel), List.mem_of_getElem? (i := 290) (by decide +kernel)⟩
theorem lw_p10 : lw_okq (⟨"BassButtons$Hand", "jumpFromChosen", "(III)I"⟩, 5) := ⟨⟨by decide +kernel, by decide +kernel⟩, List.mem_of_getElem? (i := 74) (by decide +kernel), List.mem_of_getElem? (i := 293) (by decide +kernel), List.mem_of_getElem? (i := 294) (by decide +kernel)⟩
theorem lw_p11 : lw_okq (⟨"BassButtons", "settleBellows", "()V"⟩, 6) := ⟨⟨by decide +kernel, by decide +kernel⟩, List.mem_of_getElem? (i := 11) (by decide +kernel), List.mem_of_getElem? (i := 297) (by decide +kernel), List.mem_of_getElem? (i := 298) (by decide +kernel)⟩
theorem lw_p12 : lw_okq (⟨"BassButtons$Bellows", "turnsWhenTied", "(I)Z"⟩, 6) := ⟨⟨by decide +kernel, by decide +kernel⟩, List.mem_of_getElem? (i := 167) (by decide +kernel), List.mem_of_getElem? (i := 316) (by decide +kernel), List.mem_of_getElem? (i := 317) (by decide +kernel)⟩
theorem lw_p13 : lw_okq (⟨"BassButtons$Bellows", "turnsAt", "(II)Z"⟩, 6) := ⟨⟨by decide +kernel, by decide +kernel⟩, List.mem_of_getElem? (i := 167) (by decide +kernel), List.mem_of_getElem? (i := 320) (by decide +kernel), List.mem_of_getElem? (i := 321) (by decide +kernel)⟩
theorem lw_p14 : lw_okq (⟨"BassButtons$Bellows", "peakOf", "(II)I"⟩, 6) := ⟨⟨by decide +kernel, by decide +kernel⟩, List.mem_of_getElem? (i := 167) (by decide +kernel), List.mem_of_getElem? (i := 328) (by decide +kernel), List.mem_of_getElem? (i := 329) (by decide +kernel)⟩
theorem lw_p15 : lw_okq (⟨"BassButtons$Bellows", "airMoved", "(II)I"⟩, 6) := ⟨⟨by decide +kernel, by decide +kernel⟩, List.mem_of_getElem? (i := 167) (by decide +kernel), List.mem_of_getElem? (i := 332) (by decide +kernel), List.mem_of_getElem? (i := 333) (by decide +kernel)⟩
def lw_privs_1 : List (MethodName × Nat) := [(⟨"BassButtons$Goods", "offer", "(IIII)V"⟩, 9), (⟨"BassButtons$Goods", "takeWithLow", "(II)V"⟩, 9), (⟨"BassButtons$Goods", "hasLowButton", "()Z"⟩, 9), (⟨"BassButtons$Goods", "insert", "(I)V"⟩, 9), (⟨"BassButtons$Goods", "offerSingles", "(LBassButtons$Board;)V"⟩, 9), (⟨"BassButtons$Goods", "offerPairs", "(LBassButtons$Board;)V"⟩, 9), (⟨"BassButtons", "settleHand", "()V"⟩, 6), (⟨"BassButtons$Hand", "lookAhead", "(I)V"⟩, 5), (⟨"BassButtons$Hand", "fewestOnward", "(II)I"⟩, 5), (⟨"BassButtons$Hand", "firstBest", "(II)I"⟩, 5), (⟨"BassButtons$Hand", "jumpFromChosen", "(III)I"⟩, 5), (⟨"BassButtons", "settleBellows", "()V"⟩, 6), (⟨"BassButtons$Bellows", "turnsWhenTied", "(I)Z"⟩, 6), (⟨"BassButtons$Bellows", "turnsAt", "(II)Z"⟩, 6), (⟨"BassButtons$Bellows", "peakOf", "(II)I"⟩, 6), (⟨"BassButtons$Bellows", "airMoved", "(II)I"⟩, 6)]
theorem lw_r1 : ∀ q ∈ lw_privs_1, lw_okq q := List.forall_mem_cons.mpr ⟨lw_p0, List.forall_mem_cons.mpr ⟨lw_p1, List.forall_mem_cons.mpr ⟨lw_p2, List.forall_mem_cons.mpr ⟨lw_p3, List.forall_mem_cons.mpr ⟨lw_p4, List.forall_mem_cons.mpr ⟨lw_p5, List.forall_mem_cons.mpr ⟨lw_p6, List.forall_mem_cons.mpr ⟨lw_p7, List.forall_mem_cons.mpr ⟨lw_p8, List.forall_mem_cons.mpr ⟨lw_p9, List.forall_mem_cons.mpr ⟨lw_p10, List.forall_mem_cons.mpr ⟨lw_p11, List.forall_mem_cons.mpr ⟨lw_p12, List.forall_mem_cons.mpr ⟨lw_p13, List.forall_mem_cons.mpr ⟨lw_p14, List.forall_mem_cons.mpr ⟨lw_p15, fun _ h => absurd h List.not_mem_nil⟩⟩⟩⟩⟩⟩⟩⟩⟩⟩⟩⟩⟩⟩⟩⟩
theorem lw_p16 : lw_okq (⟨"BassButtons$Bellows", "priceOf", "(I)I"⟩, 6) := ⟨⟨by decide +kernel, by decide +kernel⟩, List.mem_of_getElem? (i := 167) (by decide +kernel), List.mem_of_getElem? (i := 338) (by decide +kernel), List.mem_of_getElem? (i := 339) (by decide +kernel)⟩
theorem lw_p17 : lw_okq (⟨"BassButtons", "setRegister", "(I)I"⟩, 6) := ⟨⟨by decide +kernel, by decide +kernel⟩, List.mem_of_getElem? (i := 11) (by decide +kernel), List.mem_of_getElem? (i := 383) (by decide +kernel), List.mem_of_getElem? (i := 384) (by decide +kernel)⟩
theorem lw_p18 : lw_okq (⟨"BassButtons", "setRoom", "(I)I"⟩, 6) := ⟨⟨by decide +kernel, by decide +kernel⟩, List.mem_of_getElem? (i := 11) (by decide +kernel), List.mem_of_getElem? (i := 387) (by decide +kernel), List.mem_of_getElem? (i := 388) (by decide +kernel)⟩
theorem lw_p19 : lw_okq (⟨"BassButtons", "setStart", "(I)I"⟩, 6) := ⟨⟨by decide +kernel, by decide +kernel⟩, List.mem_of_getElem? (i := 11) (by decide +kernel), List.mem_of_getElem? (i := 391) (by decide +kernel), List.mem_of_getElem? (i := 392) (by decide +kernel)⟩
theorem lw_p20 : lw_okq (⟨"BassButtons", "settleBeat", "(I)V"⟩, 6) := ⟨⟨by decide +kernel, by decide +kernel⟩, List.mem_of_getElem? (i := 11) (by decide +kernel), List.mem_of_getElem? (i := 406) (by decide +kernel), List.mem_of_getElem? (i := 407) (by decide +kernel)⟩
theorem lw_p21 : lw_okq (⟨"BassButtonsModel", "isThere", "(I)Z"⟩, 18) := ⟨⟨by decide +kernel, by decide +kernel⟩, List.mem_of_getElem? (i := 520) (by decide +kernel), List.mem_of_getElem? (i := 595) (by decide +kernel), List.mem_of_getElem? (i := 596) (by decide +kernel)⟩
theorem lw_p22 : lw_okq (⟨"BassButtonsModel", "soundOf", "(I)I"⟩, 18) := ⟨⟨by decide +kernel, by decide +kernel⟩, List.mem_of_getElem? (i := 520) (by decide +kernel), List.mem_of_getElem? (i := 599) (by decide +kernel), List.mem_of_getElem? (i := 600) (by decide +kernel)⟩
theorem lw_p23 : lw_okq (⟨"BassButtonsModel", "rootOf", "(I)I"⟩, 18) := ⟨⟨by decide +kernel, by decide +kernel⟩, List.mem_of_getElem? (i := 520) (by decide +kernel), List.mem_of_getElem? (i := 603) (by decide +kernel), List.mem_of_getElem? (i := 604) (by decide +kernel)⟩
theorem lw_p24 : lw_okq (⟨"BassButtonsModel", "put", "(IIIII)V"⟩, 18) := ⟨⟨by decide +kernel, by decide +kernel⟩, List.mem_of_getElem? (i := 520) (by decide +kernel), List.mem_of_getElem? (i := 622) (by decide +kernel), List.mem_of_getElem? (i := 623) (by decide +kernel)⟩
theorem lw_p25 : lw_okq (⟨"BassButtonsModel", "isBeat", "(I)Z"⟩, 18) := ⟨⟨by decide +kernel, by decide +kernel⟩, List.mem_of_getElem? (i := 520) (by decide +kernel), List.mem_of_getElem? (i := 630) (by decide +kernel), List.mem_of_getElem? (i := 631) (by decide +kernel)⟩
theorem lw_p26 : lw_okq (⟨"BassButtonsModel", "findGood", "(I)V"⟩, 18) := ⟨⟨by decide +kernel, by decide +kernel⟩, List.mem_of_getElem? (i := 520) (by decide +kernel), List.mem_of_getElem? (i := 646) (by decide +kernel), List.mem_of_getElem? (i := 647) (by decide +kernel)⟩
theorem lw_p27 : lw_okq (⟨"BassButtonsModel", "judgeAll", "(II)V"⟩, 18) := ⟨⟨by decide +kernel, by decide +kernel⟩, List.mem_of_getElem? (i := 520) (by decide +kernel), List.mem_of_getElem? (i := 650) (by decide +kernel), List.mem_of_getElem? (i := 651) (by decide +kernel)⟩
theorem lw_p28 : lw_okq (⟨"BassButtonsModel", "judge", "(IIII)V"⟩, 18) := ⟨⟨by decide +kernel, by decide +kernel⟩, List.mem_of_getElem? (i := 520) (by decide +kernel), List.mem_of_getElem? (i := 654) (by decide +kernel), List.mem_of_getElem? (i := 655) (by decide +kernel)⟩
theorem lw_p29 : lw_okq (⟨"BassButtonsModel", "press", "(I)V"⟩, 18) := ⟨⟨by decide +kernel, by decide +kernel⟩, List.mem_of_getElem? (i := 520) (by decide +kernel), List.mem_of_getElem? (i := 658) (by decide +kernel), List.mem_of_getElem? (i := 659) (by decide +kernel)⟩
theorem lw_p30 : lw_okq (⟨"BassButtonsModel", "isAhead", "(I)Z"⟩, 18) := ⟨⟨by decide +kernel, by decide +kernel⟩, List.mem_of_getElem? (i := 520) (by decide +kernel), List.mem_of_getElem? (i := 665) (by decide +kernel), List.mem_of_getElem? (i := 666) (by decide +kernel)⟩
theorem lw_p31 : lw_okq (⟨"BassButtonsModel", "findHand", "()V"⟩, 18) := ⟨⟨by decide +kernel, by decide +kernel⟩, List.mem_of_getElem? (i := 520) (by decide +kernel), List.mem_of_getElem? (i := 677) (by decide +kernel), List.mem_of_getElem? (i := 678) (by decide +kernel)⟩
def lw_privs_2 : List (MethodName × Nat) := [(⟨"BassButtons$Bellows", "priceOf", "(I)I"⟩, 6), (⟨"BassButtons", "setRegister", "(I)I"⟩, 6), (⟨"BassButtons", "setRoom", "(I)I"⟩, 6), (⟨"BassButtons", "setStart", "(I)I"⟩, 6), (⟨"BassButtons", "settleBeat", "(I)V"⟩, 6), (⟨"BassButtonsModel", "isThere", "(I)Z"⟩, 18), (⟨"BassButtonsModel", "soundOf", "(I)I"⟩, 18), (⟨"BassButtonsModel", "rootOf", "(I)I"⟩, 18), (⟨"BassButtonsModel", "put", "(IIIII)V"⟩, 18), (⟨"BassButtonsModel", "isBeat", "(I)Z"⟩, 18), (⟨"BassButtonsModel", "findGood", "(I)V"⟩, 18), (⟨"BassButtonsModel", "judgeAll", "(II)V"⟩, 18), (⟨"BassButtonsModel", "judge", "(IIII)V"⟩, 18), (⟨"BassButtonsModel", "press", "(I)V"⟩, 18), (⟨"BassButtonsModel", "isAhead", "(I)Z"⟩, 18), (⟨"BassButtonsModel", "findHand", "()V"⟩, 18)]
theorem lw_r2 : ∀ q ∈ lw_privs_2, lw_okq q := List.forall_mem_cons.mpr ⟨lw_p16, List.forall_mem_cons.mpr ⟨lw_p17, List.forall_mem_cons.mpr ⟨lw_p18, List.forall_mem_cons.mpr ⟨lw_p19, List.forall_mem_cons.mpr ⟨lw_p20, List.forall_mem_cons.mpr ⟨lw_p21, List.forall_mem_cons.mpr ⟨lw_p22, List.forall_mem_cons.mpr ⟨lw_p23, List.forall_mem_cons.mpr ⟨lw_p24, List.forall_mem_cons.mpr ⟨lw_p25, List.forall_mem_cons.mpr ⟨lw_p26, List.forall_mem_cons.mpr ⟨lw_p27, List.forall_mem_cons.mpr ⟨lw_p28, List.forall_mem_cons.mpr ⟨lw_p29, List.forall_mem_cons.mpr ⟨lw_p30, List.forall_mem_cons.mpr ⟨lw_p31, fun _ h => absurd h List.not_mem_nil⟩⟩⟩⟩⟩⟩⟩⟩⟩⟩⟩⟩⟩⟩⟩⟩
theorem lw_p32 : lw_okq (⟨"BassButtonsModel", "behind", "(II)I"⟩, 18) := ⟨⟨by decide +kernel, by decide +kernel⟩, List.mem_of_getElem? (i := 520) (by decide +kernel), List.mem_of_getElem? (i := 681) (by decide +kernel), List.mem_of_getElem? (i := 682) (by decide +kernel)⟩
theorem lw_p33 : lw_okq (⟨"BassButtonsModel", "nextWith", "(I)I"⟩, 18) := ⟨⟨by decide +kernel, by decide +kernel⟩, List.mem_of_getElem? (i := 520) (by decide +kernel), List.mem_of_getElem? (i := 685) (by decide +kernel), List.mem_of_getElem? (i := 686) (by decide +kernel)⟩
theorem lw_p34 : lw_okq (⟨"BassButtonsModel", "placeOf", "(II)I"⟩, 18) := ⟨⟨by decide +kernel, by decide +kernel⟩, List.mem_of_getElem? (i := 520) (by decide +kernel), List.mem_of_getElem? (i := 690) (by decide +kernel), List.mem_of_getElem? (i := 691) (by decide +kernel)⟩
theorem lw_p35 : lw_okq (⟨"BassButtonsModel", "heardAt", "(I)I"⟩, 18) := ⟨⟨by decide +kernel, by decide +kernel⟩, List.mem_of_getElem? (i := 520) (by decide +kernel), List.mem_of_getElem? (i := 705) (by decide +kernel), List.mem_of_getElem? (i := 706) (by decide +kernel)⟩
theorem lw_p36 : lw_okq (⟨"BassButtonsModel", "buttonAt", "(II)I"⟩, 18) := ⟨⟨by decide +kernel, by decide +kernel⟩, List.mem_of_getElem? (i := 520) (by decide +kernel), List.mem_of_getElem? (i := 713) (by decide +kernel), List.mem_of_getElem? (i := 714) (by decide +kernel)⟩
theorem lw_p37 : lw_okq (⟨"BassButtonsModel", "findUses", "()V"⟩, 18) := ⟨⟨by decide +kernel, by decide +kernel⟩, List.mem_of_getElem? (i := 520) (by decide +kernel), List.mem_of_getElem? (i := 721) (by decide +kernel), List.mem_of_getElem? (i := 722) (by decide +kernel)⟩
theorem lw_p38 : lw_okq (⟨"BassButtonsModel", "findWay", "(I)I"⟩, 18) := ⟨⟨by decide +kernel, by decide +kernel⟩, List.mem_of_getElem? (i := 520) (by decide +kernel), List.mem_of_getElem? (i := 729) (by decide +kernel), List.mem_of_getElem? (i := 730) (by decide +kernel)⟩
theorem lw_p39 : lw_okq (⟨"BassButtonsModel", "costOf", "(II)I"⟩, 18) := ⟨⟨by decide +kernel, by decide +kernel⟩, List.mem_of_getElem? (i := 520) (by decide +kernel), List.mem_of_getElem? (i := 733) (by decide +kernel), List.mem_of_getElem? (i := 734) (by decide +kernel)⟩
theorem lw_p40 : lw_okq (⟨"BassButtonsModel", "goesOut", "(II)Z"⟩, 18) := ⟨⟨by decide +kernel, by decide +kernel⟩, List.mem_of_getElem? (i := 520) (by decide +kernel), List.mem_of_getElem? (i := 737) (by decide +kernel), List.mem_of_getElem? (i := 738) (by decide +kernel)⟩
theorem lw_p41 : lw_okq (⟨"BassButtonsModel", "sum", "(I)I"⟩, 18) := ⟨⟨by decide +kernel, by decide +kernel⟩, List.mem_of_getElem? (i := 520) (by decide +kernel), List.mem_of_getElem? (i := 757) (by decide +kernel), List.mem_of_getElem? (i := 758) (by decide +kernel)⟩
theorem lw_p42 : lw_okq (⟨"BassButtonsModel", "turns", "()I"⟩, 18) := ⟨⟨by decide +kernel, by decide +kernel⟩, List.mem_of_getElem? (i := 520) (by decide +kernel), List.mem_of_getElem? (i := 762) (by decide +kernel), List.mem_of_getElem? (i := 763) (by decide +kernel)⟩
def lw_privs_3 : List (MethodName × Nat) := [(⟨"BassButtonsModel", "behind", "(II)I"⟩, 18), (⟨"BassButtonsModel", "nextWith", "(I)I"⟩, 18), (⟨"BassButtonsModel", "placeOf", "(II)I"⟩, 18), (⟨"BassButtonsModel", "heardAt", "(I)I"⟩, 18), (⟨"BassButtonsModel", "buttonAt", "(II)I"⟩, 18), (⟨"BassButtonsModel", "findUses", "()V"⟩, 18), (⟨"BassButtonsModel", "findWay", "(I)I"⟩, 18), (⟨"BassButtonsModel", "costOf", "(II)I"⟩, 18), (⟨"BassButtonsModel", "goesOut", "(II)Z"⟩, 18), (⟨"BassButtonsModel", "sum", "(I)I"⟩, 18), (⟨"BassButtonsModel", "turns", "()I"⟩, 18)]
theorem lw_r3 : ∀ q ∈ lw_privs_3, lw_okq q := List.forall_mem_cons.mpr ⟨lw_p32, List.forall_mem_cons.mpr ⟨lw_p33, List.forall_mem_cons.mpr ⟨lw_p34, List.forall_mem_cons.mpr ⟨lw_p35, List.forall_mem_cons.mpr ⟨lw_p36, List.forall_mem_cons.mpr ⟨lw_p37, List.forall_mem_cons.mpr ⟨lw_p38, List.forall_mem_cons.mpr ⟨lw_p39, List.forall_mem_cons.mpr ⟨lw_p40, List.forall_mem_cons.mpr ⟨lw_p41, List.forall_mem_cons.mpr ⟨lw_p42, fun _ h => absurd h List.not_mem_nil⟩⟩⟩⟩⟩⟩⟩⟩⟩⟩⟩
def lw_privs : List (MethodName × Nat) := lw_privs_1 ++ (lw_privs_2 ++ (lw_privs_3))
def lw_tbl : List Cond := k2_sels lw_privs ++ tables_1
theorem lw_privs_ok : ∀ q ∈ lw_privs, lw_okq q := by
  show ∀ q ∈ lw_privs_1 ++ (lw_privs_2 ++ (lw_privs_3)), lw_okq q
  exact List.forall_mem_append.mpr ⟨lw_r1, List.forall_mem_append.mpr ⟨lw_r2, lw_r3⟩⟩

/-- what the tables say of an array of arrays (its row of tables_1) -/
def va_AOA (t : FieldType) (U : State) : Prop := (Cond.arrayOver (.array t)).before #[] U = true
theorem va_AOA.use {t : FieldType} {A : Array Value} {U : State} (h : va_AOA t U) : (Cond.arrayOver (.array t)).before A U = true := h
/-! ===== BEGIN words of one list among another's, by their places ===== -/
theorem goodIn_r {big : List Cond} (ws : List Cond) (ps : List Nat) (hp : ws = ps.filterMap (fun i => big[i]?)) (h : ws.all goodWord = true) : GoodIn big ws := by
  intro w hw
  have h1 := List.all_eq_true.mp h w hw
  rw [hp] at hw
  obtain ⟨i, -, hi⟩ := List.mem_filterMap.mp hw
  have hm : w ∈ big := by first | exact List.mem_of_getElem? hi | exact List.getElem?_mem hi
  exact ⟨hm, good_of_word h1⟩
theorem goodIn_app {big a b : List Cond} (ha : GoodIn big a) (hb : GoodIn big b) : GoodIn big (a ++ b) := fun w h => (List.mem_append.mp h).elim (ha w) (hb w)
theorem goodIn_ca {big a b : List Cond} {c : Cond} (ha : GoodIn big (c :: a)) (hb : GoodIn big b) : GoodIn big (c :: (a ++ b)) := fun w h => (List.mem_cons.mp h).elim (fun e => ha w (List.mem_cons.mpr (Or.inl e))) (fun h => (List.mem_append.mp h).elim (fun h => ha w (List.mem_cons.mpr (Or.inr h))) (hb w))
theorem goodIn_sub {big ws : List Cond} (hm : ∀ w ∈ ws, w ∈ big) (h : ws.all goodWord = true) : GoodIn big ws := fun w hw => ⟨hm w hw, good_of_word (List.all_eq_true.mp h w hw)⟩
/-! ===== END ===== -/

/-! ===== BEGIN new T[n][m]: the outer array a place, the inner ones among the pooled ===== -/
/-- f, but v at every address of l -/
def vr_up {α : Type} (f : Nat → α) (l : List Nat) (v : α) : Nat → α := fun a => if a ∈ l then v else f a
theorem vr_up_in {α : Type} {f : Nat → α} {l : List Nat} {v : α} {a : Nat} (h : a ∈ l) : vr_up f l v a = v := if_pos h
theorem vr_up_ne {α : Type} {f : Nat → α} {l : List Nat} {v : α} {a : Nat} (h : a ∉ l) : vr_up f l v a = f a := if_neg h
theorem vr_rows {L l : List Nat} {f : Nat → va_E} {e : va_E} (h : ∀ a, a ∈ l → a ∉ L) : va_pl L f ++ l.map (fun a => (a, e)) = va_pl (L ++ l) (vr_up f l e) := by
  unfold va_pl
  rw [List.map_append]
  congr 1
  · apply List.map_congr_left
    intro a ha
    rw [vr_up_ne (fun q => h a q ha)]
  · apply List.map_congr_left
    intro a ha
    rw [vr_up_in ha]
theorem vr_lay {X rows : va_W} {x : Nat × va_E} {pl : va_W} {D : va_G} {cl : List vw_C} {H : Heap} (hP : va_P D cl (((X ++ pl) ++ [x]) ++ rows) H) : va_P D cl ((X ++ [x]) ++ (pl ++ rows)) H := by
  rw [List.append_assoc (X ++ pl)] at hP
  have h := va_P.swap hP
  rw [← List.append_assoc X] at h
  have h2 := va_P.swap h
  rw [List.append_assoc (X ++ [x])] at h2
  exact h2
theorem vr_layD {X rows : va_W} {x : Nat × va_E} {pl : va_W} {A : Nat → Prop} (hD : va_D A (((X ++ pl) ++ [x]) ++ rows)) : va_D A ((X ++ [x]) ++ (pl ++ rows)) := by
  rw [List.append_assoc (X ++ pl)] at hD
  have h := va_D.swap hD
  rw [← List.append_assoc X] at h
  have h2 := va_D.swap h
  rw [List.append_assoc (X ++ [x])] at h2
  exact h2
theorem vr_outer (c : ClassId) (N h0 : Nat) : ∀ i : Nat, Jvm.Free.Multi.outerC c N h0 i = arrV c N (fun j => va_rf (if j < i then some (h0 + 1 + j) else none))
  | 0 => by
    show ({ cls := c, slots := Array.replicate N .null, vm := .none } : Cell) = _
    rw [arrV_new]
    refine congrArg (arrV c N) (funext fun j => ?_)
    simp [va_rf]
  | i + 1 => by
    show (Jvm.Free.Multi.outerC c N h0 i).setSlot i (.ref (h0 + 1 + i)) = _
    rw [vr_outer c N h0 i, arrV_store]
    refine congrArg (arrV c N) (funext fun j => ?_)
    by_cases e : j = i
    · subst e
      simp [updV, va_rf]
    · by_cases h : j < i
      · simp [updV, e, h, Nat.lt_succ_of_lt h]
      · simp [updV, e, h, show ¬ j < i + 1 by omega]
section VGM
variable {p : Program} {l : Launch} {e : Env} {R : Room} {s : State} {m : MethodId} {args : Array Value} {below : List Frame} {meth : Method} {c : Code} {H : Heap} {locs : List Loc} {cells slots : Nat} {Q : State → Prop}
variable {cc : ByteArray} {pc : Nat} {ls : Array Slot} {rest : List Value} {D : va_G} {cl : List vw_C} {A : Nat → Prop} {a : Nat} {tys : List (ClassId × FieldType)} {ws : va_W} {H0 : Heap}
theorem va_mna {X : va_W} {L : List Nat} {f : Nat → va_E} {cc : ByteArray} (hexec : p.tables.exec = Jvm.exec) (hb : c.code = cc) {own : String} {index : Nat} {ty : FieldType} {cy : ClassId} (hown : s.vm.findClass own = some m.cls) (hclink : (Cond.classLink own index ("[" ++ (FieldType.array ty).toString)).before args s = true) (hover : va_AOA ty s) (harr : (Cond.arrayClass ty).before args s = true) (hcy : s.vm.findClass (FieldType.array ty).toString = some cy)
    (hK : va_K D cl tys s) (hP : va_P D cl (X ++ va_pl L f) H) (hD : va_D A (X ++ va_pl L f)) (hS : va_S A H0 H locs) (hA : ∀ q, H0.size ≤ q → A q) {n k : Int32} {N' K' : Nat} {z : vp_A} (hn : ¬ n < 0) (hk : ¬ k < 0) (hN : n.toNatClampNeg = N') (hM : k.toNatClampNeg = K')
    (hb1 : N' * 4 ≤ 536870912) (hb2 : K' * componentBytes ty ≤ 536870912) (hb3 : K' ≤ 536870912) (hdf : fits ty (defaultValue ty) = true) (hdd : (defaultValue ty).isDefault = true) (hcells : cells + (1 + N') ≤ R.cells) (hslots : slots + (N' + N' * K') ≤ R.slots) (hz : ∀ c : ClassId, Jvm.Free.Multi.innerC c K' (defaultValue ty) = vp_cell c z) (hdg : decode cc pc = .ok (.multianewarray index 2, 4))
    (kk : ∀ (q : Nat) (r : Nat → Nat) (cA : ClassId) (H1 : Heap), (∀ i j : Nat, i < N' → j < N' → r i = r j → i = j) → (∀ i : Nat, i < N' → r i ∉ L) → va_K D cl (tys ++ [(cA, .array ty)]) s →
      va_P D cl ((X ++ [(q, .inl (cA, N', .inr (.inr (.inr (.inr (fun i => if i < N' then some (r i) else none))))))]) ++ va_pl (L ++ (List.range N').map r) (vr_up f ((List.range N').map r) (.inl (cy, z)))) H1 → va_D A ((X ++ [(q, .inl (cA, N', .inr (.inr (.inr (.inr (fun i => if i < N' then some (r i) else none))))))]) ++ va_pl (L ++ (List.range N').map r) (vr_up f ((List.range N').map r) (.inl (cy, z)))) → va_S A H0 H1 locs →
      W p l e R s m args below meth c H1 locs (cells + 1 + N') (slots + N' + N' * K') Q (F0 m (pc + 4) ls (.ref q :: rest))) : W p l e R s m args below meth c H locs cells slots Q (F0 m pc ls (.int k :: .int n :: rest)) := by
  subst hN
  subst hM
  intro T hT Xs
  obtain ⟨vm₁, cA, comp, -, fA, fC, hO, -, X', step⟩ := Xs.multianewarray2F hexec hown hclink (va_AOA.use hover) harr (g := F0 m pc ls (.int k :: .int n :: rest)) rfl (by rw [hb]; exact hdg) rfl hn hk hb1 hb2 hb3 hdf hdd hcells hslots
  have ec : some cy = some comp := hcy.symm.trans fC
  cases ec
  generalize hF : Jvm.Free.Multi.fill (T.setVm vm₁) cA cy n.toNatClampNeg k.toNatClampNeg (defaultValue ty) n.toNatClampNeg = F at X' step
  have hTh : (T.setVm vm₁).heap = H := hT
  obtain ⟨f1, f2, -, -⟩ := Jvm.Free.Multi.fill_facts (T.setVm vm₁) cA cy n.toNatClampNeg k.toNatClampNeg (defaultValue ty) n.toNatClampNeg
  rw [hF, hTh] at f1 f2
  have hold : ∀ x : Nat, x < H.size → F.heap[x]? = H[x]? := fun x hx => by
    have := Jvm.Free.Multi.fill_old (T.setVm vm₁) cA cy n.toNatClampNeg k.toNatClampNeg (defaultValue ty) (a := x) (by rw [hTh]; exact hx) n.toNatClampNeg
    rw [hF, hTh] at this
    exact this
  have hrow : ∀ j : Nat, j < n.toNatClampNeg → F.heap[H.size + 1 + j]? = some (vp_cell cy z) := fun j hj => by
    have := Jvm.Free.Multi.fill_inner (T.setVm vm₁) cA cy n.toNatClampNeg k.toNatClampNeg (defaultValue ty) n.toNatClampNeg j hj
    rw [hF, hTh, hz] at this
    exact this
  have hout : Jvm.Free.Multi.outerC cA n.toNatClampNeg H.size n.toNatClampNeg = vp_cell cA (n.toNatClampNeg, .inr (.inr (.inr (.inr (fun i => if i < n.toNatClampNeg then some (H.size + 1 + i) else none))))) := by
    rw [vp_cell_q]
    exact vr_outer cA n.toNatClampNeg H.size n.toNatClampNeg
  rw [hout] at f2
  have hlt : ∀ a, a ∈ L → a < H.size := fun a ha => by
    obtain ⟨k9, hk9⟩ := va_pl_get (X := X) (f := f) ha
    exact (hP k9 _ hk9).lt
  have hnl : ∀ i : Nat, i < n.toNatClampNeg → H.size + 1 + i ∉ L := fun i _ h => by
    have := hlt _ h
    omega
  have hnm : ∀ a, a ∈ (List.range n.toNatClampNeg).map (fun i => H.size + 1 + i) → a ∉ L := fun a ha h => by
    obtain ⟨i, -, rfl⟩ := List.mem_map.mp ha
    have := hlt _ h
    omega
  have hP0 : va_P D cl (X ++ va_pl L f) F.heap := hP.kept (fun k9 x hx => hold x.1 ((hP k9 x hx).lt))
  have hP1 : va_P D cl ((X ++ va_pl L f) ++ [(H.size, .inl (cA, n.toNatClampNeg, .inr (.inr (.inr (.inr (fun i => if i < n.toNatClampNeg then some (H.size + 1 + i) else none))))))]) F.heap := hP0.app (fun k9 x hx => by
    have h0 : k9 < 1 := (List.getElem?_eq_some_iff.mp hx).1
    rw [show k9 = 0 by omega] at hx
    cases hx
    exact f2)
  have hP2 : va_P D cl (((X ++ va_pl L f) ++ [(H.size, .inl (cA, n.toNatClampNeg, .inr (.inr (.inr (.inr (fun i => if i < n.toNatClampNeg then some (H.size + 1 + i) else none))))))]) ++ ((List.range n.toNatClampNeg).map (fun i => H.size + 1 + i)).map (fun a => (a, .inl (cy, z)))) F.heap := hP1.app (fun k9 x hx => by
    obtain ⟨a, ha, rfl⟩ := List.mem_map.mp (List.mem_of_getElem? hx)
    obtain ⟨i, hi, rfl⟩ := List.mem_map.mp ha
    exact hrow i (List.mem_range.mp hi))
  have hD2 : va_D A (((X ++ va_pl L f) ++ [(H.size, .inl (cA, n.toNatClampNeg, .inr (.inr (.inr (.inr (fun i => if i < n.toNatClampNeg then some (H.size + 1 + i) else none))))))]) ++ ((List.range n.toNatClampNeg).map (fun i => H.size + 1 + i)).map (fun a => (a, .inl (cy, z)))) := by
    have hD1 := hD.push (e := .inl (cA, n.toNatClampNeg, .inr (.inr (.inr (.inr (fun i => if i < n.toNatClampNeg then some (H.size + 1 + i) else none)))))) hP rfl (hA _ hS.1)
    generalize hW1 : (X ++ va_pl L f) ++ [(H.size, .inl (cA, n.toNatClampNeg, .inr (.inr (.inr (.inr (fun i => if i < n.toNatClampNeg then some (H.size + 1 + i) else none))))))] = W1 at hD1 hP1 ⊢
    have hle : ∀ (k9 : Nat) (x : Nat × va_E), W1[k9]? = some x → x.1 ≤ H.size := fun k9 x hx => by
      rw [← hW1] at hx
      by_cases hl : k9 < (X ++ va_pl L f).length
      · rw [List.getElem?_append_left hl] at hx
        exact Nat.le_of_lt ((hP k9 x hx).lt)
      · rw [List.getElem?_append_right (by omega)] at hx
        have h0 : k9 - (X ++ va_pl L f).length < 1 := (List.getElem?_eq_some_iff.mp hx).1
        rw [show k9 - (X ++ va_pl L f).length = 0 by omega] at hx
        cases hx
        exact Nat.le_refl _
    have hr : ∀ (k9 : Nat) (x : Nat × va_E), (((List.range n.toNatClampNeg).map (fun i => H.size + 1 + i)).map (fun a => ((a, .inl (cy, z)) : Nat × va_E)))[k9]? = some x → x.1 = H.size + 1 + k9 := fun k9 x hx => by
      rw [List.getElem?_map, List.getElem?_map] at hx
      by_cases h9 : k9 < n.toNatClampNeg
      · rw [List.getElem?_range h9] at hx
        cases hx
        rfl
      · have hn0 : (List.range n.toNatClampNeg)[k9]? = none := List.getElem?_eq_none (by rw [List.length_range]; omega)
        rw [hn0] at hx
        cases hx
    refine ⟨fun i j x y hi hj hxy => ?_, fun k9 x hx => ?_⟩
    · by_cases h1 : i < W1.length <;> by_cases h2 : j < W1.length
      · rw [List.getElem?_append_left h1] at hi
        rw [List.getElem?_append_left h2] at hj
        exact hD1.1 i j x y hi hj hxy
      · rw [List.getElem?_append_left h1] at hi
        rw [List.getElem?_append_right (by omega)] at hj
        have := hle _ _ hi
        have := hr _ _ hj
        omega
      · rw [List.getElem?_append_right (by omega)] at hi
        rw [List.getElem?_append_left h2] at hj
        have := hle _ _ hj
        have := hr _ _ hi
        omega
      · rw [List.getElem?_append_right (by omega)] at hi hj
        have := hr _ _ hi
        have := hr _ _ hj
        omega
    · by_cases h1 : k9 < W1.length
      · rw [List.getElem?_append_left h1] at hx
        exact hD1.2 k9 x hx
      · rw [List.getElem?_append_right (by omega)] at hx
        have := hr _ _ hx
        exact hA _ (by have := hS.1; omega)
  have hAr : ArrOfT s cA (.array ty) := fun N9 z9 => by
    obtain ⟨-, k9, hk9, cm9, hkk9⟩ := (hO 0 0 0).1
    exact ⟨(fun q hq => by cases hq), k9, hk9, cm9, hkk9⟩
  have hK2 : va_K D cl (tys ++ [(cA, .array ty)]) s := ⟨hK.1, fun k9 x hx => by
    by_cases hl : k9 < tys.length
    · rw [List.getElem?_append_left hl] at hx
      exact hK.2 k9 x hx
    · rw [List.getElem?_append_right (by omega)] at hx
      have h0 : k9 - tys.length < 1 := (List.getElem?_eq_some_iff.mp hx).1
      rw [show k9 - tys.length = 0 by omega] at hx
      cases hx
      exact ⟨hAr, fA⟩⟩
  obtain ⟨t, a1, b1⟩ := kk H.size (fun i => H.size + 1 + i) cA F.heap (fun i j _ _ h => by have h9 : H.size + 1 + i = H.size + 1 + j := h; omega) hnl hK2 (by rw [← vr_rows hnm]; exact vr_lay hP2) (by rw [← vr_rows hnm]; exact vr_layD hD2) ⟨by rw [f1]; have := hS.1; omega, fun x h1 h2 => (hold x (Nat.lt_of_lt_of_le h1 hS.1)).trans (hS.2.1 x h1 h2), hS.2.2⟩ F rfl X'
  refine ⟨t, step t ?_, b1⟩
  have e : T.heap.size = H.size := by rw [hT]
  rw [e]
  exact a1
end VGM
/-! ===== END ===== -/

/-! ===== BEGIN printed: names, fields, word lists, decode rows ===== -/
def RX0 : String := "BassButtons$Bellows"
def TX0 : u_T := fun k => match k with
  | 0 => ("BassButtons$Bellows", "uses", "[I", true)
  | 1 => ("BassButtons$Bellows", "marks", "[I", true)
  | 2 => ("BassButtons$Bellows", "beats", "I", false)
  | 3 => ("BassButtons$Bellows", "way", "I", false)
  | 4 => ("BassButtons$Bellows", "price", "I", false)
  | _ => ("BassButtons$Bellows", "leastRoom", "I", false)
def tyX0 : Nat → FieldType := fun k => match k with
  | 0 => .array .int
  | 1 => .array .int
  | 2 => .int
  | 3 => .int
  | 4 => .int
  | _ => .int
abbrev wsX00 : List Cond := u_ws RX0 TX0 6
theorem nmX0 : ∀ a, a < 6 → ∀ b, b < 6 → a ≠ b → (TX0 a).2.1 ≠ (TX0 b).2.1 := by decide +kernel
theorem tyX0_ok : ∀ k, k < 6 → parseFieldDescriptor (TX0 k).2.2.1 = some (tyX0 k) := by decide +kernel
abbrev cX0_init : ByteArray := prog_2_method_1_code
def yX0_init : MethodName := ⟨RX0, "<init>", "()V"⟩
abbrev cX0_load : ByteArray := prog_2_method_2_code
def yX0_load : MethodName := ⟨RX0, "load", "(LBassButtons$Desk;LBassButtons$Hand;)V"⟩
abbrev cX0_choose : ByteArray := prog_2_method_3_code
def yX0_choose : MethodName := ⟨RX0, "choose", "(II)V"⟩
abbrev cX0_hasWay : ByteArray := prog_2_method_4_code
def yX0_hasWay : MethodName := ⟨RX0, "hasWay", "()Z"⟩
abbrev cX0_goesOut : ByteArray := prog_2_method_5_code
def yX0_goesOut : MethodName := ⟨RX0, "goesOut", "(II)Z"⟩
abbrev cX0_turnsAt : ByteArray := prog_2_method_6_code
def yX0_turnsAt : MethodName := ⟨RX0, "turnsAt", "(II)Z"⟩
abbrev cX0_turnsWhenTied : ByteArray := prog_2_method_7_code
def yX0_turnsWhenTied : MethodName := ⟨RX0, "turnsWhenTied", "(I)Z"⟩
abbrev cX0_airMoved : ByteArray := prog_2_method_8_code
def yX0_airMoved : MethodName := ⟨RX0, "airMoved", "(II)I"⟩
abbrev cX0_peakOf : ByteArray := prog_2_method_9_code
def yX0_peakOf : MethodName := ⟨RX0, "peakOf", "(II)I"⟩
abbrev cX0_priceOf : ByteArray := prog_2_method_10_code
def yX0_priceOf : MethodName := ⟨RX0, "priceOf", "(I)I"⟩
abbrev cX0_turnsOf : ByteArray := prog_2_method_11_code
def yX0_turnsOf : MethodName := ⟨RX0, "turnsOf", "(I)I"⟩
abbrev cX0_airBehind : ByteArray := prog_2_method_12_code
def yX0_airBehind : MethodName := ⟨RX0, "airBehind", "(II)I"⟩
def RX1 : String := "BassButtons$Board"
def TX1 : u_T := fun k => match k with
  | 0 => ("BassButtons$Board", "notes", "[I", true)
  | 1 => ("BassButtons$Board", "chordButtons", "[I", true)
  | _ => ("BassButtons$Board", "chordCount", "I", false)
def tyX1 : Nat → FieldType := fun k => match k with
  | 0 => .array .int
  | 1 => .array .int
  | _ => .int
abbrev wsX10 : List Cond := u_ws RX1 TX1 3
theorem nmX1 : ∀ a, a < 3 → ∀ b, b < 3 → a ≠ b → (TX1 a).2.1 ≠ (TX1 b).2.1 := by decide +kernel
theorem tyX1_ok : ∀ k, k < 3 → parseFieldDescriptor (TX1 k).2.2.1 = some (tyX1 k) := by decide +kernel
abbrev cX1_init : ByteArray := prog_3_method_1_code
def yX1_init : MethodName := ⟨RX1, "<init>", "()V"⟩
abbrev cX1_tune : ByteArray := prog_3_method_2_code
def yX1_tune : MethodName := ⟨RX1, "tune", "(II)V"⟩
abbrev cX1_raised : ByteArray := prog_3_method_3_code
def yX1_raised : MethodName := ⟨RX1, "raised", "(II)I"⟩
abbrev cX1_lowButton : ByteArray := prog_3_method_4_code
def yX1_lowButton : MethodName := ⟨RX1, "lowButton", "(II)I"⟩
def RX2 : String := "BassButtons$Desk"
def TX2 : u_T := fun k => match k with
  | 0 => ("BassButtons$Desk", "base", "I", false)
  | 1 => ("BassButtons$Desk", "rows", "I", false)
  | 2 => ("BassButtons$Desk", "register", "I", false)
  | 3 => ("BassButtons$Desk", "room", "I", false)
  | 4 => ("BassButtons$Desk", "start", "I", false)
  | 5 => ("BassButtons$Desk", "beats", "I", false)
  | 6 => ("BassButtons$Desk", "chords", "[I", true)
  | 7 => ("BassButtons$Desk", "lows", "[I", true)
  | 8 => ("BassButtons$Desk", "lengths", "[I", true)
  | _ => ("BassButtons$Desk", "marks", "[I", true)
def tyX2 : Nat → FieldType := fun k => match k with
  | 0 => .int
  | 1 => .int
  | 2 => .int
  | 3 => .int
  | 4 => .int
  | 5 => .int
  | 6 => .array .int
  | 7 => .array .int
  | 8 => .array .int
  | _ => .array .int
abbrev wsX20 : List Cond := u_ws RX2 TX2 10
theorem nmX2 : ∀ a, a < 10 → ∀ b, b < 10 → a ≠ b → (TX2 a).2.1 ≠ (TX2 b).2.1 := by decide +kernel
theorem tyX2_ok : ∀ k, k < 10 → parseFieldDescriptor (TX2 k).2.2.1 = some (tyX2 k) := by decide +kernel
abbrev cX2_init : ByteArray := prog_4_method_1_code
def yX2_init : MethodName := ⟨RX2, "<init>", "()V"⟩
abbrev cX2_has : ByteArray := prog_4_method_2_code
def yX2_has : MethodName := ⟨RX2, "has", "(I)Z"⟩
abbrev cX2_write : ByteArray := prog_4_method_3_code
def yX2_write : MethodName := ⟨RX2, "write", "(IIIII)V"⟩
abbrev cX2_copyFrom : ByteArray := prog_4_method_4_code
def yX2_copyFrom : MethodName := ⟨RX2, "copyFrom", "(LBassButtons$Desk;)V"⟩
def RX3 : String := "BassButtons$Goods"
def TX3 : u_T := fun k => match k with
  | 0 => ("BassButtons$Goods", "codes", "[I", true)
  | 1 => ("BassButtons$Goods", "count", "I", false)
  | 2 => ("BassButtons$Goods", "size", "I", false)
  | 3 => ("BassButtons$Goods", "lack", "I", false)
  | 4 => ("BassButtons$Goods", "extra", "I", false)
  | 5 => ("BassButtons$Goods", "wanted", "I", false)
  | 6 => ("BassButtons$Goods", "counterButton", "I", false)
  | 7 => ("BassButtons$Goods", "bassButton", "I", false)
  | _ => ("BassButtons$Goods", "bestRank", "I", false)
def tyX3 : Nat → FieldType := fun k => match k with
  | 0 => .array .int
  | 1 => .int
  | 2 => .int
  | 3 => .int
  | 4 => .int
  | 5 => .int
  | 6 => .int
  | 7 => .int
  | _ => .int
abbrev wsX30 : List Cond := u_ws RX3 TX3 9
theorem nmX3 : ∀ a, a < 9 → ∀ b, b < 9 → a ≠ b → (TX3 a).2.1 ≠ (TX3 b).2.1 := by decide +kernel
theorem tyX3_ok : ∀ k, k < 9 → parseFieldDescriptor (TX3 k).2.2.1 = some (tyX3 k) := by decide +kernel
abbrev cX3_init : ByteArray := prog_5_method_1_code
def yX3_init : MethodName := ⟨RX3, "<init>", "()V"⟩
abbrev cX3_find : ByteArray := prog_5_method_2_code
def yX3_find : MethodName := ⟨RX3, "find", "(LBassButtons$Board;II)V"⟩
abbrev cX3_hasLowButton : ByteArray := prog_5_method_3_code
def yX3_hasLowButton : MethodName := ⟨RX3, "hasLowButton", "()Z"⟩
abbrev cX3_offerSingles : ByteArray := prog_5_method_4_code
def yX3_offerSingles : MethodName := ⟨RX3, "offerSingles", "(LBassButtons$Board;)V"⟩
abbrev cX3_offerPairs : ByteArray := prog_5_method_5_code
def yX3_offerPairs : MethodName := ⟨RX3, "offerPairs", "(LBassButtons$Board;)V"⟩
abbrev cX3_offer : ByteArray := prog_5_method_6_code
def yX3_offer : MethodName := ⟨RX3, "offer", "(IIII)V"⟩
abbrev cX3_takeWithLow : ByteArray := prog_5_method_7_code
def yX3_takeWithLow : MethodName := ⟨RX3, "takeWithLow", "(II)V"⟩
abbrev cX3_packed : ByteArray := prog_5_method_8_code
def yX3_packed : MethodName := ⟨RX3, "packed", "(III)I"⟩
abbrev cX3_insert : ByteArray := prog_5_method_9_code
def yX3_insert : MethodName := ⟨RX3, "insert", "(I)V"⟩
abbrev cX3_buttonAt : ByteArray := prog_5_method_10_code
def yX3_buttonAt : MethodName := ⟨RX3, "buttonAt", "(II)I"⟩
abbrev cX3_placeOf : ByteArray := prog_5_method_11_code
def yX3_placeOf : MethodName := ⟨RX3, "placeOf", "(I)I"⟩
def RX4 : String := "BassButtons$Hand"
def TX4 : u_T := fun k => match k with
  | 0 => ("BassButtons$Hand", "board", "LBassButtons$Board;", true)
  | 1 => ("BassButtons$Hand", "goods", "[LBassButtons$Goods;", true)
  | 2 => ("BassButtons$Hand", "chosen", "[I", true)
  | 3 => ("BassButtons$Hand", "jumped", "I", false)
  | _ => ("BassButtons$Hand", "jumpsToCome", "[[I", true)
def tyX4 : Nat → FieldType := fun k => match k with
  | 0 => .object "BassButtons$Board"
  | 1 => .array (.object "BassButtons$Goods")
  | 2 => .array .int
  | 3 => .int
  | _ => .array (.array .int)
abbrev wsX40 : List Cond := u_ws RX4 TX4 5
theorem nmX4 : ∀ a, a < 5 → ∀ b, b < 5 → a ≠ b → (TX4 a).2.1 ≠ (TX4 b).2.1 := by decide +kernel
theorem tyX4_ok : ∀ k, k < 5 → parseFieldDescriptor (TX4 k).2.2.1 = some (tyX4 k) := by decide +kernel
abbrev cX4_init : ByteArray := prog_6_method_1_code
def yX4_init : MethodName := ⟨RX4, "<init>", "()V"⟩
abbrev cX4_learn : ByteArray := prog_6_method_2_code
def yX4_learn : MethodName := ⟨RX4, "learn", "(IILBassButtons$Desk;)V"⟩
abbrev cX4_choose : ByteArray := prog_6_method_3_code
def yX4_choose : MethodName := ⟨RX4, "choose", "(I)V"⟩
abbrev cX4_lookAhead : ByteArray := prog_6_method_4_code
def yX4_lookAhead : MethodName := ⟨RX4, "lookAhead", "(I)V"⟩
abbrev cX4_fewestOnward : ByteArray := prog_6_method_5_code
def yX4_fewestOnward : MethodName := ⟨RX4, "fewestOnward", "(II)I"⟩
abbrev cX4_firstBest : ByteArray := prog_6_method_6_code
def yX4_firstBest : MethodName := ⟨RX4, "firstBest", "(II)I"⟩
abbrev cX4_jumpFromChosen : ByteArray := prog_6_method_7_code
def yX4_jumpFromChosen : MethodName := ⟨RX4, "jumpFromChosen", "(III)I"⟩
abbrev cX4_notesOf : ByteArray := prog_6_method_8_code
def yX4_notesOf : MethodName := ⟨RX4, "notesOf", "(I)I"⟩
abbrev cX4_hasSameButtons : ByteArray := prog_6_method_9_code
def yX4_hasSameButtons : MethodName := ⟨RX4, "hasSameButtons", "(LBassButtons$Hand;I)Z"⟩
abbrev cX4_lackOfAll : ByteArray := prog_6_method_10_code
def yX4_lackOfAll : MethodName := ⟨RX4, "lackOfAll", "(I)I"⟩
abbrev cX4_extraOfAll : ByteArray := prog_6_method_11_code
def yX4_extraOfAll : MethodName := ⟨RX4, "extraOfAll", "(I)I"⟩
abbrev cX4_buttonsOfAll : ByteArray := prog_6_method_12_code
def yX4_buttonsOfAll : MethodName := ⟨RX4, "buttonsOfAll", "(I)I"⟩
def RX5 : String := "BassButtons"
def TX5 : u_T := fun k => match k with
  | 0 => ("BassButtons", "desk", "LBassButtons$Desk;", true)
  | 1 => ("BassButtons", "keptDesk", "LBassButtons$Desk;", true)
  | 2 => ("BassButtons", "isKept", "Z", false)
  | 3 => ("BassButtons", "playing", "LBassButtons$Hand;", true)
  | 4 => ("BassButtons", "supposed", "LBassButtons$Hand;", true)
  | _ => ("BassButtons", "pumping", "LBassButtons$Bellows;", true)
def tyX5 : Nat → FieldType := fun k => match k with
  | 0 => .object "BassButtons$Desk"
  | 1 => .object "BassButtons$Desk"
  | 2 => .boolean
  | 3 => .object "BassButtons$Hand"
  | 4 => .object "BassButtons$Hand"
  | _ => .object "BassButtons$Bellows"
abbrev wsX50 : List Cond := u_ws RX5 TX5 6
theorem nmX5 : ∀ a, a < 6 → ∀ b, b < 6 → a ≠ b → (TX5 a).2.1 ≠ (TX5 b).2.1 := by decide +kernel
theorem tyX5_ok : ∀ k, k < 6 → parseFieldDescriptor (TX5 k).2.2.1 = some (tyX5 k) := by decide +kernel
abbrev cX5_init : ByteArray := prog_1_method_1_code
def yX5_init : MethodName := ⟨RX5, "<init>", "()V"⟩
abbrev cX5_system : ByteArray := prog_1_method_2_code
def yX5_system : MethodName := ⟨RX5, "system", "(II)I"⟩
abbrev cX5_sound : ByteArray := prog_1_method_3_code
def yX5_sound : MethodName := ⟨RX5, "sound", "(I)I"⟩
abbrev cX5_root : ByteArray := prog_1_method_4_code
def yX5_root : MethodName := ⟨RX5, "root", "(I)I"⟩
abbrev cX5_rule : ByteArray := prog_1_method_5_code
def yX5_rule : MethodName := ⟨RX5, "rule", "(II)I"⟩
abbrev cX5_beat : ByteArray := prog_1_method_6_code
def yX5_beat : MethodName := ⟨RX5, "beat", "(IIII)I"⟩
abbrev cX5_alter : ByteArray := prog_1_method_7_code
def yX5_alter : MethodName := ⟨RX5, "alter", "(IIIII)I"⟩
abbrev cX5_drop : ByteArray := prog_1_method_8_code
def yX5_drop : MethodName := ⟨RX5, "drop", "()I"⟩
abbrev cX5_of : ByteArray := prog_1_method_9_code
def yX5_of : MethodName := ⟨RX5, "of", "(II)I"⟩
abbrev cX5_good : ByteArray := prog_1_method_10_code
def yX5_good : MethodName := ⟨RX5, "good", "(II)I"⟩
abbrev cX5_button : ByteArray := prog_1_method_11_code
def yX5_button : MethodName := ⟨RX5, "button", "(III)I"⟩
abbrev cX5_hand : ByteArray := prog_1_method_12_code
def yX5_hand : MethodName := ⟨RX5, "hand", "(I)I"⟩
abbrev cX5_jumps : ByteArray := prog_1_method_13_code
def yX5_jumps : MethodName := ⟨RX5, "jumps", "()I"⟩
abbrev cX5_sounds : ByteArray := prog_1_method_14_code
def yX5_sounds : MethodName := ⟨RX5, "sounds", "(I)I"⟩
abbrev cX5_changed : ByteArray := prog_1_method_15_code
def yX5_changed : MethodName := ⟨RX5, "changed", "(II)I"⟩
abbrev cX5_use : ByteArray := prog_1_method_16_code
def yX5_use : MethodName := ⟨RX5, "use", "(I)I"⟩
abbrev cX5_bellows : ByteArray := prog_1_method_17_code
def yX5_bellows : MethodName := ⟨RX5, "bellows", "(I)I"⟩
abbrev cX5_air : ByteArray := prog_1_method_18_code
def yX5_air : MethodName := ⟨RX5, "air", "(I)I"⟩
abbrev cX5_cost : ByteArray := prog_1_method_19_code
def yX5_cost : MethodName := ⟨RX5, "cost", "()I"⟩
abbrev cX5_wants : ByteArray := prog_1_method_20_code
def yX5_wants : MethodName := ⟨RX5, "wants", "()I"⟩
abbrev cX5_many : ByteArray := prog_1_method_21_code
def yX5_many : MethodName := ⟨RX5, "many", "(I)I"⟩
abbrev cX5_keep : ByteArray := prog_1_method_22_code
def yX5_keep : MethodName := ⟨RX5, "keep", "()I"⟩
abbrev cX5_back : ByteArray := prog_1_method_23_code
def yX5_back : MethodName := ⟨RX5, "back", "()I"⟩
abbrev cX5_isSystem : ByteArray := prog_1_method_24_code
def yX5_isSystem : MethodName := ⟨RX5, "isSystem", "(II)Z"⟩
abbrev cX5_isBeat : ByteArray := prog_1_method_25_code
def yX5_isBeat : MethodName := ⟨RX5, "isBeat", "(IIII)Z"⟩
abbrev cX5_rootOf : ByteArray := prog_1_method_26_code
def yX5_rootOf : MethodName := ⟨RX5, "rootOf", "(II)I"⟩
abbrev cX5_setRegister : ByteArray := prog_1_method_27_code
def yX5_setRegister : MethodName := ⟨RX5, "setRegister", "(I)I"⟩
abbrev cX5_setRoom : ByteArray := prog_1_method_28_code
def yX5_setRoom : MethodName := ⟨RX5, "setRoom", "(I)I"⟩
abbrev cX5_setStart : ByteArray := prog_1_method_29_code
def yX5_setStart : MethodName := ⟨RX5, "setStart", "(I)I"⟩
abbrev cX5_settleBeat : ByteArray := prog_1_method_30_code
def yX5_settleBeat : MethodName := ⟨RX5, "settleBeat", "(I)V"⟩
abbrev cX5_settleHand : ByteArray := prog_1_method_31_code
def yX5_settleHand : MethodName := ⟨RX5, "settleHand", "()V"⟩
abbrev cX5_settleBellows : ByteArray := prog_1_method_32_code
def yX5_settleBellows : MethodName := ⟨RX5, "settleBellows", "()V"⟩
def RX6 : String := "BassButtonsModel"
def TX6 : u_T := fun k => match k with
  | 0 => ("BassButtonsModel", "numbers", "[I", true)
  | 1 => ("BassButtonsModel", "beats", "[I", true)
  | 2 => ("BassButtonsModel", "isKept", "Z", false)
  | 3 => ("BassButtonsModel", "kept", "[I", true)
  | 4 => ("BassButtonsModel", "lacks", "[I", true)
  | 5 => ("BassButtonsModel", "extras", "[I", true)
  | 6 => ("BassButtonsModel", "sizes", "[I", true)
  | 7 => ("BassButtonsModel", "goodMany", "[I", true)
  | 8 => ("BassButtonsModel", "goods", "[I", true)
  | 9 => ("BassButtonsModel", "tried", "[I", true)
  | 10 => ("BassButtonsModel", "triedMany", "I", false)
  | 11 => ("BassButtonsModel", "fewest", "[I", true)
  | 12 => ("BassButtonsModel", "hand", "[I", true)
  | 13 => ("BassButtonsModel", "jumps", "I", false)
  | 14 => ("BassButtonsModel", "before", "[I", true)
  | 15 => ("BassButtonsModel", "uses", "[I", true)
  | 16 => ("BassButtonsModel", "marked", "[I", true)
  | _ => ("BassButtonsModel", "bestCost", "I", false)
def tyX6 : Nat → FieldType := fun k => match k with
  | 0 => .array .int
  | 1 => .array .int
  | 2 => .boolean
  | 3 => .array .int
  | 4 => .array .int
  | 5 => .array .int
  | 6 => .array .int
  | 7 => .array .int
  | 8 => .array .int
  | 9 => .array .int
  | 10 => .int
  | 11 => .array .int
  | 12 => .array .int
  | 13 => .int
  | 14 => .array .int
  | 15 => .array .int
  | 16 => .array .int
  | _ => .int
abbrev wsX60 : List Cond := u_ws RX6 TX6 18
theorem nmX6 : ∀ a, a < 18 → ∀ b, b < 18 → a ≠ b → (TX6 a).2.1 ≠ (TX6 b).2.1 := by decide +kernel
theorem tyX6_ok : ∀ k, k < 18 → parseFieldDescriptor (TX6 k).2.2.1 = some (tyX6 k) := by decide +kernel
abbrev cX6_init : ByteArray := prog_8_method_1_code
def yX6_init : MethodName := ⟨RX6, "<init>", "()V"⟩
abbrev cX6_in : ByteArray := prog_8_method_2_code
def yX6_in : MethodName := ⟨RX6, "in", "(III)Z"⟩
abbrev cX6_isBeat : ByteArray := prog_8_method_3_code
def yX6_isBeat : MethodName := ⟨RX6, "isBeat", "(I)Z"⟩
abbrev cX6_isSystem : ByteArray := prog_8_method_4_code
def yX6_isSystem : MethodName := ⟨RX6, "isSystem", "(II)Z"⟩
abbrev cX6_system : ByteArray := prog_8_method_5_code
def yX6_system : MethodName := ⟨RX6, "system", "(II)I"⟩
abbrev cX6_rootOf : ByteArray := prog_8_method_6_code
def yX6_rootOf : MethodName := ⟨RX6, "rootOf", "(I)I"⟩
abbrev cX6_isThere : ByteArray := prog_8_method_7_code
def yX6_isThere : MethodName := ⟨RX6, "isThere", "(I)Z"⟩
abbrev cX6_soundOf : ByteArray := prog_8_method_8_code
def yX6_soundOf : MethodName := ⟨RX6, "soundOf", "(I)I"⟩
abbrev cX6_sound : ByteArray := prog_8_method_9_code
def yX6_sound : MethodName := ⟨RX6, "sound", "(I)I"⟩
abbrev cX6_root : ByteArray := prog_8_method_10_code
def yX6_root : MethodName := ⟨RX6, "root", "(I)I"⟩
abbrev cX6_rule : ByteArray := prog_8_method_11_code
def yX6_rule : MethodName := ⟨RX6, "rule", "(II)I"⟩
abbrev cX6_isTold : ByteArray := prog_8_method_12_code
def yX6_isTold : MethodName := ⟨RX6, "isTold", "(IIII)Z"⟩
abbrev cX6_put : ByteArray := prog_8_method_13_code
def yX6_put : MethodName := ⟨RX6, "put", "(IIIII)V"⟩
abbrev cX6_beat : ByteArray := prog_8_method_14_code
def yX6_beat : MethodName := ⟨RX6, "beat", "(IIII)I"⟩
abbrev cX6_alter : ByteArray := prog_8_method_15_code
def yX6_alter : MethodName := ⟨RX6, "alter", "(IIIII)I"⟩
abbrev cX6_drop : ByteArray := prog_8_method_16_code
def yX6_drop : MethodName := ⟨RX6, "drop", "()I"⟩
abbrev cX6_of : ByteArray := prog_8_method_17_code
def yX6_of : MethodName := ⟨RX6, "of", "(II)I"⟩
abbrev cX6_ones : ByteArray := prog_8_method_18_code
def yX6_ones : MethodName := ⟨RX6, "ones", "(I)I"⟩
abbrev cX6_press : ByteArray := prog_8_method_19_code
def yX6_press : MethodName := ⟨RX6, "press", "(I)V"⟩
abbrev cX6_isAhead : ByteArray := prog_8_method_20_code
def yX6_isAhead : MethodName := ⟨RX6, "isAhead", "(I)Z"⟩
abbrev cX6_judge : ByteArray := prog_8_method_21_code
def yX6_judge : MethodName := ⟨RX6, "judge", "(IIII)V"⟩
abbrev cX6_judgeAll : ByteArray := prog_8_method_22_code
def yX6_judgeAll : MethodName := ⟨RX6, "judgeAll", "(II)V"⟩
abbrev cX6_findGood : ByteArray := prog_8_method_23_code
def yX6_findGood : MethodName := ⟨RX6, "findGood", "(I)V"⟩
abbrev cX6_good : ByteArray := prog_8_method_24_code
def yX6_good : MethodName := ⟨RX6, "good", "(II)I"⟩
abbrev cX6_button : ByteArray := prog_8_method_25_code
def yX6_button : MethodName := ⟨RX6, "button", "(III)I"⟩
abbrev cX6_placeOf : ByteArray := prog_8_method_26_code
def yX6_placeOf : MethodName := ⟨RX6, "placeOf", "(II)I"⟩
abbrev cX6_away : ByteArray := prog_8_method_27_code
def yX6_away : MethodName := ⟨RX6, "away", "(II)I"⟩
abbrev cX6_nextWith : ByteArray := prog_8_method_28_code
def yX6_nextWith : MethodName := ⟨RX6, "nextWith", "(I)I"⟩
abbrev cX6_behind : ByteArray := prog_8_method_29_code
def yX6_behind : MethodName := ⟨RX6, "behind", "(II)I"⟩
abbrev cX6_findHand : ByteArray := prog_8_method_30_code
def yX6_findHand : MethodName := ⟨RX6, "findHand", "()V"⟩
abbrev cX6_hand : ByteArray := prog_8_method_31_code
def yX6_hand : MethodName := ⟨RX6, "hand", "(I)I"⟩
abbrev cX6_jumps : ByteArray := prog_8_method_32_code
def yX6_jumps : MethodName := ⟨RX6, "jumps", "()I"⟩
abbrev cX6_heardAt : ByteArray := prog_8_method_33_code
def yX6_heardAt : MethodName := ⟨RX6, "heardAt", "(I)I"⟩
abbrev cX6_sounds : ByteArray := prog_8_method_34_code
def yX6_sounds : MethodName := ⟨RX6, "sounds", "(I)I"⟩
abbrev cX6_buttonAt : ByteArray := prog_8_method_35_code
def yX6_buttonAt : MethodName := ⟨RX6, "buttonAt", "(II)I"⟩
abbrev cX6_changed : ByteArray := prog_8_method_36_code
def yX6_changed : MethodName := ⟨RX6, "changed", "(II)I"⟩
abbrev cX6_findUses : ByteArray := prog_8_method_37_code
def yX6_findUses : MethodName := ⟨RX6, "findUses", "()V"⟩
abbrev cX6_use : ByteArray := prog_8_method_38_code
def yX6_use : MethodName := ⟨RX6, "use", "(I)I"⟩
abbrev cX6_costOf : ByteArray := prog_8_method_39_code
def yX6_costOf : MethodName := ⟨RX6, "costOf", "(II)I"⟩
abbrev cX6_findWay : ByteArray := prog_8_method_40_code
def yX6_findWay : MethodName := ⟨RX6, "findWay", "(I)I"⟩
abbrev cX6_goesOut : ByteArray := prog_8_method_41_code
def yX6_goesOut : MethodName := ⟨RX6, "goesOut", "(II)Z"⟩
abbrev cX6_bellows : ByteArray := prog_8_method_42_code
def yX6_bellows : MethodName := ⟨RX6, "bellows", "(I)I"⟩
abbrev cX6_air : ByteArray := prog_8_method_43_code
def yX6_air : MethodName := ⟨RX6, "air", "(I)I"⟩
abbrev cX6_cost : ByteArray := prog_8_method_44_code
def yX6_cost : MethodName := ⟨RX6, "cost", "()I"⟩
abbrev cX6_wants : ByteArray := prog_8_method_45_code
def yX6_wants : MethodName := ⟨RX6, "wants", "()I"⟩
abbrev cX6_sum : ByteArray := prog_8_method_46_code
def yX6_sum : MethodName := ⟨RX6, "sum", "(I)I"⟩
abbrev cX6_turns : ByteArray := prog_8_method_47_code
def yX6_turns : MethodName := ⟨RX6, "turns", "()I"⟩
abbrev cX6_many : ByteArray := prog_8_method_48_code
def yX6_many : MethodName := ⟨RX6, "many", "(I)I"⟩
abbrev cX6_keep : ByteArray := prog_8_method_49_code
def yX6_keep : MethodName := ⟨RX6, "keep", "()I"⟩
abbrev cX6_back : ByteArray := prog_8_method_50_code
def yX6_back : MethodName := ⟨RX6, "back", "()I"⟩
def RJ6 : String := "java/lang/Integer"
def TJ6 : u_T := fun k => match k with
  | _ => ("", "", "", false)
def tyJ6 : Nat → FieldType := fun k => match k with
  | _ => .int
abbrev wsJ60 : List Cond := u_ws RJ6 TJ6 0
theorem nmJ6 : ∀ a, a < 0 → ∀ b, b < 0 → a ≠ b → (TJ6 a).2.1 ≠ (TJ6 b).2.1 := by decide +kernel
theorem tyJ6_ok : ∀ k, k < 0 → parseFieldDescriptor (TJ6 k).2.2.1 = some (tyJ6 k) := by decide +kernel
abbrev cJ6_bitCount_0f7a4 : ByteArray := prog_9_method_49_code
def yJ6_bitCount_0f7a4 : MethodName := ⟨RJ6, "bitCount", "(I)I"⟩
def RJ9 : String := "java/lang/Math"
def TJ9 : u_T := fun k => match k with
  | _ => ("", "", "", false)
def tyJ9 : Nat → FieldType := fun k => match k with
  | _ => .int
abbrev wsJ90 : List Cond := u_ws RJ9 TJ9 0
theorem nmJ9 : ∀ a, a < 0 → ∀ b, b < 0 → a ≠ b → (TJ9 a).2.1 ≠ (TJ9 b).2.1 := by decide +kernel
theorem tyJ9_ok : ∀ k, k < 0 → parseFieldDescriptor (TJ9 k).2.2.1 = some (tyJ9 k) := by decide +kernel
abbrev cJ9_abs_0f7a4 : ByteArray := prog_10_method_59_code
def yJ9_abs_0f7a4 : MethodName := ⟨RJ9, "abs", "(I)I"⟩
abbrev cJ9_max_7cf53 : ByteArray := prog_10_method_65_code
def yJ9_max_7cf53 : MethodName := ⟨RJ9, "max", "(II)I"⟩
abbrev cJ9_min_7cf53 : ByteArray := prog_10_method_69_code
def yJ9_min_7cf53 : MethodName := ⟨RJ9, "min", "(II)I"⟩
def RL : String := "BassButtonsLaw"
abbrev cL_law : ByteArray := code
def yL_law : MethodName := ⟨RL, "law", "([I)Z"⟩
end
section
theorem dX0_init_0 : decode cX0_init 0 = .ok (.aload_n 0, 1) := by decide +kernel
theorem dX0_init_1 : decode cX0_init 1 = .ok (.invokespecial 3, 3) := by decide +kernel
theorem dX0_init_4 : decode cX0_init 4 = .ok (.aload_n 0, 1) := by decide +kernel
theorem dX0_init_5 : decode cX0_init 5 = .ok (.bipush 8, 2) := by decide +kernel
theorem dX0_init_7 : decode cX0_init 7 = .ok (.newarray .int, 2) := by decide +kernel
theorem dX0_init_9 : decode cX0_init 9 = .ok (.putfield 9, 3) := by decide +kernel
theorem dX0_init_12 : decode cX0_init 12 = .ok (.aload_n 0, 1) := by decide +kernel
theorem dX0_init_13 : decode cX0_init 13 = .ok (.bipush 8, 2) := by decide +kernel
theorem dX0_init_15 : decode cX0_init 15 = .ok (.newarray .int, 2) := by decide +kernel
theorem dX0_init_17 : decode cX0_init 17 = .ok (.putfield 15, 3) := by decide +kernel
theorem dX0_init_20 : decode cX0_init 20 = .ok (.aload_n 0, 1) := by decide +kernel
theorem dX0_init_21 : decode cX0_init 21 = .ok (.iconst 0, 1) := by decide +kernel
theorem dX0_init_22 : decode cX0_init 22 = .ok (.putfield 18, 3) := by decide +kernel
theorem dX0_init_25 : decode cX0_init 25 = .ok (.aload_n 0, 1) := by decide +kernel
theorem dX0_init_26 : decode cX0_init 26 = .ok (.iconst (-1), 1) := by decide +kernel
theorem dX0_init_27 : decode cX0_init 27 = .ok (.putfield 22, 3) := by decide +kernel
theorem dX0_init_30 : decode cX0_init 30 = .ok (.aload_n 0, 1) := by decide +kernel
theorem dX0_init_31 : decode cX0_init 31 = .ok (.iconst 0, 1) := by decide +kernel
theorem dX0_init_32 : decode cX0_init 32 = .ok (.putfield 25, 3) := by decide +kernel
theorem dX0_init_35 : decode cX0_init 35 = .ok (.aload_n 0, 1) := by decide +kernel
theorem dX0_init_36 : decode cX0_init 36 = .ok (.iconst 1, 1) := by decide +kernel
theorem dX0_init_37 : decode cX0_init 37 = .ok (.putfield 28, 3) := by decide +kernel
theorem dX0_init_40 : decode cX0_init 40 = .ok (.return_, 1) := by decide +kernel
theorem dX0_load_0 : decode cX0_load 0 = .ok (.aload_n 0, 1) := by decide +kernel
theorem dX0_load_1 : decode cX0_load 1 = .ok (.aload_n 1, 1) := by decide +kernel
theorem dX0_load_2 : decode cX0_load 2 = .ok (.getfield 31, 3) := by decide +kernel
theorem dX0_load_5 : decode cX0_load 5 = .ok (.putfield 18, 3) := by decide +kernel
theorem dX0_load_8 : decode cX0_load 8 = .ok (.iconst 0, 1) := by decide +kernel
theorem dX0_load_9 : decode cX0_load 9 = .ok (.istore_n 3, 1) := by decide +kernel
theorem dX0_load_10 : decode cX0_load 10 = .ok (.iload_n 3, 1) := by decide +kernel
theorem dX0_load_11 : decode cX0_load 11 = .ok (.aload_n 0, 1) := by decide +kernel
theorem dX0_load_12 : decode cX0_load 12 = .ok (.getfield 18, 3) := by decide +kernel
theorem dX0_load_15 : decode cX0_load 15 = .ok (.if_icmp .ge 47, 3) := by decide +kernel
theorem dX0_load_18 : decode cX0_load 18 = .ok (.aload_n 0, 1) := by decide +kernel
theorem dX0_load_19 : decode cX0_load 19 = .ok (.getfield 9, 3) := by decide +kernel
theorem dX0_load_22 : decode cX0_load 22 = .ok (.iload_n 3, 1) := by decide +kernel
theorem dX0_load_23 : decode cX0_load 23 = .ok (.aload_n 1, 1) := by decide +kernel
theorem dX0_load_24 : decode cX0_load 24 = .ok (.getfield 34, 3) := by decide +kernel
theorem dX0_load_27 : decode cX0_load 27 = .ok (.iload_n 3, 1) := by decide +kernel
theorem dX0_load_28 : decode cX0_load 28 = .ok (.iaload, 1) := by decide +kernel
theorem dX0_load_29 : decode cX0_load 29 = .ok (.aload_n 1, 1) := by decide +kernel
theorem dX0_load_30 : decode cX0_load 30 = .ok (.getfield 37, 3) := by decide +kernel
theorem dX0_load_33 : decode cX0_load 33 = .ok (.imul, 1) := by decide +kernel
theorem dX0_load_34 : decode cX0_load 34 = .ok (.aload_n 2, 1) := by decide +kernel
theorem dX0_load_35 : decode cX0_load 35 = .ok (.iload_n 3, 1) := by decide +kernel
theorem dX0_load_36 : decode cX0_load 36 = .ok (.invokevirtual 40, 3) := by decide +kernel
theorem dX0_load_39 : decode cX0_load 39 = .ok (.invokestatic 46, 3) := by decide +kernel
theorem dX0_load_42 : decode cX0_load 42 = .ok (.imul, 1) := by decide +kernel
theorem dX0_load_43 : decode cX0_load 43 = .ok (.iastore, 1) := by decide +kernel
theorem dX0_load_44 : decode cX0_load 44 = .ok (.aload_n 0, 1) := by decide +kernel
theorem dX0_load_45 : decode cX0_load 45 = .ok (.getfield 15, 3) := by decide +kernel
theorem dX0_load_48 : decode cX0_load 48 = .ok (.iload_n 3, 1) := by decide +kernel
theorem dX0_load_49 : decode cX0_load 49 = .ok (.aload_n 1, 1) := by decide +kernel
theorem dX0_load_50 : decode cX0_load 50 = .ok (.getfield 51, 3) := by decide +kernel
theorem dX0_load_53 : decode cX0_load 53 = .ok (.iload_n 3, 1) := by decide +kernel
theorem dX0_load_54 : decode cX0_load 54 = .ok (.iaload, 1) := by decide +kernel
theorem dX0_load_55 : decode cX0_load 55 = .ok (.iastore, 1) := by decide +kernel
theorem dX0_load_56 : decode cX0_load 56 = .ok (.iinc 3 1, 3) := by decide +kernel
theorem dX0_load_59 : decode cX0_load 59 = .ok (.goto (-49), 3) := by decide +kernel
theorem dX0_load_62 : decode cX0_load 62 = .ok (.return_, 1) := by decide +kernel
theorem dX0_choose_0 : decode cX0_choose 0 = .ok (.aload_n 0, 1) := by decide +kernel
theorem dX0_choose_1 : decode cX0_choose 1 = .ok (.iconst (-1), 1) := by decide +kernel
theorem dX0_choose_2 : decode cX0_choose 2 = .ok (.putfield 22, 3) := by decide +kernel
theorem dX0_choose_5 : decode cX0_choose 5 = .ok (.aload_n 0, 1) := by decide +kernel
theorem dX0_choose_6 : decode cX0_choose 6 = .ok (.ldc 52, 2) := by decide +kernel
theorem dX0_choose_8 : decode cX0_choose 8 = .ok (.putfield 25, 3) := by decide +kernel
theorem dX0_choose_11 : decode cX0_choose 11 = .ok (.aload_n 0, 1) := by decide +kernel
theorem dX0_choose_12 : decode cX0_choose 12 = .ok (.ldc 52, 2) := by decide +kernel
theorem dX0_choose_14 : decode cX0_choose 14 = .ok (.putfield 28, 3) := by decide +kernel
theorem dX0_choose_17 : decode cX0_choose 17 = .ok (.iconst 0, 1) := by decide +kernel
theorem dX0_choose_18 : decode cX0_choose 18 = .ok (.istore_n 3, 1) := by decide +kernel
theorem dX0_choose_19 : decode cX0_choose 19 = .ok (.iload_n 3, 1) := by decide +kernel
theorem dX0_choose_20 : decode cX0_choose 20 = .ok (.iconst 1, 1) := by decide +kernel
theorem dX0_choose_21 : decode cX0_choose 21 = .ok (.aload_n 0, 1) := by decide +kernel
theorem dX0_choose_22 : decode cX0_choose 22 = .ok (.getfield 18, 3) := by decide +kernel
theorem dX0_choose_25 : decode cX0_choose 25 = .ok (.ishl, 1) := by decide +kernel
theorem dX0_choose_26 : decode cX0_choose 26 = .ok (.if_icmp .ge 88, 3) := by decide +kernel
theorem dX0_choose_29 : decode cX0_choose 29 = .ok (.aload_n 0, 1) := by decide +kernel
theorem dX0_choose_30 : decode cX0_choose 30 = .ok (.iload_n 3, 1) := by decide +kernel
theorem dX0_choose_31 : decode cX0_choose 31 = .ok (.invokevirtual 53, 3) := by decide +kernel
theorem dX0_choose_34 : decode cX0_choose 34 = .ok (.ifCond .eq 7, 3) := by decide +kernel
theorem dX0_choose_37 : decode cX0_choose 37 = .ok (.iconst (-1), 1) := by decide +kernel
theorem dX0_choose_38 : decode cX0_choose 38 = .ok (.goto 9, 3) := by decide +kernel
theorem dX0_choose_41 : decode cX0_choose 41 = .ok (.aload_n 0, 1) := by decide +kernel
theorem dX0_choose_42 : decode cX0_choose 42 = .ok (.iload_n 3, 1) := by decide +kernel
theorem dX0_choose_43 : decode cX0_choose 43 = .ok (.iload_n 1, 1) := by decide +kernel
theorem dX0_choose_44 : decode cX0_choose 44 = .ok (.invokevirtual 57, 3) := by decide +kernel
theorem dX0_choose_47 : decode cX0_choose 47 = .ok (.istore 4, 2) := by decide +kernel
theorem dX0_choose_49 : decode cX0_choose 49 = .ok (.iload 4, 2) := by decide +kernel
theorem dX0_choose_51 : decode cX0_choose 51 = .ok (.iconst (-1), 1) := by decide +kernel
theorem dX0_choose_52 : decode cX0_choose 52 = .ok (.if_icmp .ne 6, 3) := by decide +kernel
theorem dX0_choose_55 : decode cX0_choose 55 = .ok (.goto 53, 3) := by decide +kernel
theorem dX0_choose_58 : decode cX0_choose 58 = .ok (.aload_n 0, 1) := by decide +kernel
theorem dX0_choose_59 : decode cX0_choose 59 = .ok (.aload_n 0, 1) := by decide +kernel
theorem dX0_choose_60 : decode cX0_choose 60 = .ok (.getfield 28, 3) := by decide +kernel
theorem dX0_choose_63 : decode cX0_choose 63 = .ok (.iload 4, 2) := by decide +kernel
theorem dX0_choose_65 : decode cX0_choose 65 = .ok (.iconst 1, 1) := by decide +kernel
theorem dX0_choose_66 : decode cX0_choose 66 = .ok (.invokestatic 61, 3) := by decide +kernel
theorem dX0_choose_69 : decode cX0_choose 69 = .ok (.invokestatic 66, 3) := by decide +kernel
theorem dX0_choose_72 : decode cX0_choose 72 = .ok (.putfield 28, 3) := by decide +kernel
theorem dX0_choose_75 : decode cX0_choose 75 = .ok (.aload_n 0, 1) := by decide +kernel
theorem dX0_choose_76 : decode cX0_choose 76 = .ok (.iload_n 3, 1) := by decide +kernel
theorem dX0_choose_77 : decode cX0_choose 77 = .ok (.invokevirtual 69, 3) := by decide +kernel
theorem dX0_choose_80 : decode cX0_choose 80 = .ok (.istore 5, 2) := by decide +kernel
theorem dX0_choose_82 : decode cX0_choose 82 = .ok (.iload 4, 2) := by decide +kernel
theorem dX0_choose_84 : decode cX0_choose 84 = .ok (.iload_n 2, 1) := by decide +kernel
theorem dX0_choose_85 : decode cX0_choose 85 = .ok (.if_icmp .gt 23, 3) := by decide +kernel
theorem dX0_choose_88 : decode cX0_choose 88 = .ok (.iload 5, 2) := by decide +kernel
theorem dX0_choose_90 : decode cX0_choose 90 = .ok (.aload_n 0, 1) := by decide +kernel
theorem dX0_choose_91 : decode cX0_choose 91 = .ok (.getfield 25, 3) := by decide +kernel
theorem dX0_choose_94 : decode cX0_choose 94 = .ok (.if_icmp .ge 14, 3) := by decide +kernel
theorem dX0_choose_97 : decode cX0_choose 97 = .ok (.aload_n 0, 1) := by decide +kernel
theorem dX0_choose_98 : decode cX0_choose 98 = .ok (.iload_n 3, 1) := by decide +kernel
theorem dX0_choose_99 : decode cX0_choose 99 = .ok (.putfield 22, 3) := by decide +kernel
theorem dX0_choose_102 : decode cX0_choose 102 = .ok (.aload_n 0, 1) := by decide +kernel
theorem dX0_choose_103 : decode cX0_choose 103 = .ok (.iload 5, 2) := by decide +kernel
theorem dX0_choose_105 : decode cX0_choose 105 = .ok (.putfield 25, 3) := by decide +kernel
theorem dX0_choose_108 : decode cX0_choose 108 = .ok (.iinc 3 1, 3) := by decide +kernel
theorem dX0_choose_111 : decode cX0_choose 111 = .ok (.goto (-92), 3) := by decide +kernel
theorem dX0_choose_114 : decode cX0_choose 114 = .ok (.return_, 1) := by decide +kernel
theorem dX0_hasWay_0 : decode cX0_hasWay 0 = .ok (.aload_n 0, 1) := by decide +kernel
theorem dX0_hasWay_1 : decode cX0_hasWay 1 = .ok (.getfield 22, 3) := by decide +kernel
theorem dX0_hasWay_4 : decode cX0_hasWay 4 = .ok (.iconst (-1), 1) := by decide +kernel
theorem dX0_hasWay_5 : decode cX0_hasWay 5 = .ok (.if_icmp .eq 7, 3) := by decide +kernel
theorem dX0_hasWay_8 : decode cX0_hasWay 8 = .ok (.iconst 1, 1) := by decide +kernel
theorem dX0_hasWay_9 : decode cX0_hasWay 9 = .ok (.goto 4, 3) := by decide +kernel
theorem dX0_hasWay_12 : decode cX0_hasWay 12 = .ok (.iconst 0, 1) := by decide +kernel
theorem dX0_hasWay_13 : decode cX0_hasWay 13 = .ok (.ireturn, 1) := by decide +kernel
theorem dX0_goesOut_0 : decode cX0_goesOut 0 = .ok (.iload_n 1, 1) := by decide +kernel
theorem dX0_goesOut_1 : decode cX0_goesOut 1 = .ok (.aload_n 0, 1) := by decide +kernel
theorem dX0_goesOut_2 : decode cX0_goesOut 2 = .ok (.getfield 18, 3) := by decide +kernel
theorem dX0_goesOut_5 : decode cX0_goesOut 5 = .ok (.iconst 1, 1) := by decide +kernel
theorem dX0_goesOut_6 : decode cX0_goesOut 6 = .ok (.isub, 1) := by decide +kernel
theorem dX0_goesOut_7 : decode cX0_goesOut 7 = .ok (.iload_n 2, 1) := by decide +kernel
theorem dX0_goesOut_8 : decode cX0_goesOut 8 = .ok (.isub, 1) := by decide +kernel
theorem dX0_goesOut_9 : decode cX0_goesOut 9 = .ok (.ishr, 1) := by decide +kernel
theorem dX0_goesOut_10 : decode cX0_goesOut 10 = .ok (.iconst 1, 1) := by decide +kernel
theorem dX0_goesOut_11 : decode cX0_goesOut 11 = .ok (.iand, 1) := by decide +kernel
theorem dX0_goesOut_12 : decode cX0_goesOut 12 = .ok (.ifCond .ne 7, 3) := by decide +kernel
theorem dX0_goesOut_15 : decode cX0_goesOut 15 = .ok (.iconst 1, 1) := by decide +kernel
theorem dX0_goesOut_16 : decode cX0_goesOut 16 = .ok (.goto 4, 3) := by decide +kernel
theorem dX0_goesOut_19 : decode cX0_goesOut 19 = .ok (.iconst 0, 1) := by decide +kernel
theorem dX0_goesOut_20 : decode cX0_goesOut 20 = .ok (.ireturn, 1) := by decide +kernel
theorem dX0_turnsAt_0 : decode cX0_turnsAt 0 = .ok (.iload_n 2, 1) := by decide +kernel
theorem dX0_turnsAt_1 : decode cX0_turnsAt 1 = .ok (.ifCond .le 24, 3) := by decide +kernel
theorem dX0_turnsAt_4 : decode cX0_turnsAt 4 = .ok (.aload_n 0, 1) := by decide +kernel
theorem dX0_turnsAt_5 : decode cX0_turnsAt 5 = .ok (.iload_n 1, 1) := by decide +kernel
theorem dX0_turnsAt_6 : decode cX0_turnsAt 6 = .ok (.iload_n 2, 1) := by decide +kernel
theorem dX0_turnsAt_7 : decode cX0_turnsAt 7 = .ok (.invokevirtual 72, 3) := by decide +kernel
theorem dX0_turnsAt_10 : decode cX0_turnsAt 10 = .ok (.aload_n 0, 1) := by decide +kernel
theorem dX0_turnsAt_11 : decode cX0_turnsAt 11 = .ok (.iload_n 1, 1) := by decide +kernel
theorem dX0_turnsAt_12 : decode cX0_turnsAt 12 = .ok (.iload_n 2, 1) := by decide +kernel
theorem dX0_turnsAt_13 : decode cX0_turnsAt 13 = .ok (.iconst 1, 1) := by decide +kernel
theorem dX0_turnsAt_14 : decode cX0_turnsAt 14 = .ok (.isub, 1) := by decide +kernel
theorem dX0_turnsAt_15 : decode cX0_turnsAt 15 = .ok (.invokevirtual 72, 3) := by decide +kernel
theorem dX0_turnsAt_18 : decode cX0_turnsAt 18 = .ok (.if_icmp .eq 7, 3) := by decide +kernel
theorem dX0_turnsAt_21 : decode cX0_turnsAt 21 = .ok (.iconst 1, 1) := by decide +kernel
theorem dX0_turnsAt_22 : decode cX0_turnsAt 22 = .ok (.goto 4, 3) := by decide +kernel
theorem dX0_turnsAt_25 : decode cX0_turnsAt 25 = .ok (.iconst 0, 1) := by decide +kernel
theorem dX0_turnsAt_26 : decode cX0_turnsAt 26 = .ok (.ireturn, 1) := by decide +kernel
theorem dX0_turnsWhenTied_0 : decode cX0_turnsWhenTied 0 = .ok (.iconst 1, 1) := by decide +kernel
theorem dX0_turnsWhenTied_1 : decode cX0_turnsWhenTied 1 = .ok (.istore_n 2, 1) := by decide +kernel
theorem dX0_turnsWhenTied_2 : decode cX0_turnsWhenTied 2 = .ok (.iload_n 2, 1) := by decide +kernel
theorem dX0_turnsWhenTied_3 : decode cX0_turnsWhenTied 3 = .ok (.aload_n 0, 1) := by decide +kernel
theorem dX0_turnsWhenTied_4 : decode cX0_turnsWhenTied 4 = .ok (.getfield 18, 3) := by decide +kernel
theorem dX0_turnsWhenTied_7 : decode cX0_turnsWhenTied 7 = .ok (.if_icmp .ge 30, 3) := by decide +kernel
theorem dX0_turnsWhenTied_10 : decode cX0_turnsWhenTied 10 = .ok (.aload_n 0, 1) := by decide +kernel
theorem dX0_turnsWhenTied_11 : decode cX0_turnsWhenTied 11 = .ok (.getfield 15, 3) := by decide +kernel
theorem dX0_turnsWhenTied_14 : decode cX0_turnsWhenTied 14 = .ok (.iload_n 2, 1) := by decide +kernel
theorem dX0_turnsWhenTied_15 : decode cX0_turnsWhenTied 15 = .ok (.iaload, 1) := by decide +kernel
theorem dX0_turnsWhenTied_16 : decode cX0_turnsWhenTied 16 = .ok (.iconst 3, 1) := by decide +kernel
theorem dX0_turnsWhenTied_17 : decode cX0_turnsWhenTied 17 = .ok (.if_icmp .ne 14, 3) := by decide +kernel
theorem dX0_turnsWhenTied_20 : decode cX0_turnsWhenTied 20 = .ok (.aload_n 0, 1) := by decide +kernel
theorem dX0_turnsWhenTied_21 : decode cX0_turnsWhenTied 21 = .ok (.iload_n 1, 1) := by decide +kernel
theorem dX0_turnsWhenTied_22 : decode cX0_turnsWhenTied 22 = .ok (.iload_n 2, 1) := by decide +kernel
theorem dX0_turnsWhenTied_23 : decode cX0_turnsWhenTied 23 = .ok (.invokevirtual 76, 3) := by decide +kernel
theorem dX0_turnsWhenTied_26 : decode cX0_turnsWhenTied 26 = .ok (.ifCond .eq 5, 3) := by decide +kernel
theorem dX0_turnsWhenTied_29 : decode cX0_turnsWhenTied 29 = .ok (.iconst 1, 1) := by decide +kernel
theorem dX0_turnsWhenTied_30 : decode cX0_turnsWhenTied 30 = .ok (.ireturn, 1) := by decide +kernel
theorem dX0_turnsWhenTied_31 : decode cX0_turnsWhenTied 31 = .ok (.iinc 2 1, 3) := by decide +kernel
theorem dX0_turnsWhenTied_34 : decode cX0_turnsWhenTied 34 = .ok (.goto (-32), 3) := by decide +kernel
theorem dX0_turnsWhenTied_37 : decode cX0_turnsWhenTied 37 = .ok (.iconst 0, 1) := by decide +kernel
theorem dX0_turnsWhenTied_38 : decode cX0_turnsWhenTied 38 = .ok (.ireturn, 1) := by decide +kernel
theorem dX0_airMoved_0 : decode cX0_airMoved 0 = .ok (.aload_n 0, 1) := by decide +kernel
theorem dX0_airMoved_1 : decode cX0_airMoved 1 = .ok (.iload_n 1, 1) := by decide +kernel
theorem dX0_airMoved_2 : decode cX0_airMoved 2 = .ok (.iload_n 2, 1) := by decide +kernel
theorem dX0_airMoved_3 : decode cX0_airMoved 3 = .ok (.invokevirtual 72, 3) := by decide +kernel
theorem dX0_airMoved_6 : decode cX0_airMoved 6 = .ok (.ifCond .eq 12, 3) := by decide +kernel
theorem dX0_airMoved_9 : decode cX0_airMoved 9 = .ok (.aload_n 0, 1) := by decide +kernel
theorem dX0_airMoved_10 : decode cX0_airMoved 10 = .ok (.getfield 9, 3) := by decide +kernel
theorem dX0_airMoved_13 : decode cX0_airMoved 13 = .ok (.iload_n 2, 1) := by decide +kernel
theorem dX0_airMoved_14 : decode cX0_airMoved 14 = .ok (.iaload, 1) := by decide +kernel
theorem dX0_airMoved_15 : decode cX0_airMoved 15 = .ok (.goto 10, 3) := by decide +kernel
theorem dX0_airMoved_18 : decode cX0_airMoved 18 = .ok (.aload_n 0, 1) := by decide +kernel
theorem dX0_airMoved_19 : decode cX0_airMoved 19 = .ok (.getfield 9, 3) := by decide +kernel
theorem dX0_airMoved_22 : decode cX0_airMoved 22 = .ok (.iload_n 2, 1) := by decide +kernel
theorem dX0_airMoved_23 : decode cX0_airMoved 23 = .ok (.iaload, 1) := by decide +kernel
theorem dX0_airMoved_24 : decode cX0_airMoved 24 = .ok (.ineg, 1) := by decide +kernel
theorem dX0_airMoved_25 : decode cX0_airMoved 25 = .ok (.ireturn, 1) := by decide +kernel
theorem dX0_peakOf_0 : decode cX0_peakOf 0 = .ok (.iload_n 2, 1) := by decide +kernel
theorem dX0_peakOf_1 : decode cX0_peakOf 1 = .ok (.istore_n 3, 1) := by decide +kernel
theorem dX0_peakOf_2 : decode cX0_peakOf 2 = .ok (.iload_n 2, 1) := by decide +kernel
theorem dX0_peakOf_3 : decode cX0_peakOf 3 = .ok (.istore 4, 2) := by decide +kernel
theorem dX0_peakOf_5 : decode cX0_peakOf 5 = .ok (.iconst 0, 1) := by decide +kernel
theorem dX0_peakOf_6 : decode cX0_peakOf 6 = .ok (.istore 5, 2) := by decide +kernel
theorem dX0_peakOf_8 : decode cX0_peakOf 8 = .ok (.iload 5, 2) := by decide +kernel
theorem dX0_peakOf_10 : decode cX0_peakOf 10 = .ok (.aload_n 0, 1) := by decide +kernel
theorem dX0_peakOf_11 : decode cX0_peakOf 11 = .ok (.getfield 18, 3) := by decide +kernel
theorem dX0_peakOf_14 : decode cX0_peakOf 14 = .ok (.if_icmp .ge 33, 3) := by decide +kernel
theorem dX0_peakOf_17 : decode cX0_peakOf 17 = .ok (.iload_n 3, 1) := by decide +kernel
theorem dX0_peakOf_18 : decode cX0_peakOf 18 = .ok (.aload_n 0, 1) := by decide +kernel
theorem dX0_peakOf_19 : decode cX0_peakOf 19 = .ok (.iload_n 1, 1) := by decide +kernel
theorem dX0_peakOf_20 : decode cX0_peakOf 20 = .ok (.iload 5, 2) := by decide +kernel
theorem dX0_peakOf_22 : decode cX0_peakOf 22 = .ok (.invokevirtual 79, 3) := by decide +kernel
theorem dX0_peakOf_25 : decode cX0_peakOf 25 = .ok (.iadd, 1) := by decide +kernel
theorem dX0_peakOf_26 : decode cX0_peakOf 26 = .ok (.istore_n 3, 1) := by decide +kernel
theorem dX0_peakOf_27 : decode cX0_peakOf 27 = .ok (.iload_n 3, 1) := by decide +kernel
theorem dX0_peakOf_28 : decode cX0_peakOf 28 = .ok (.ifCond .ge 5, 3) := by decide +kernel
theorem dX0_peakOf_31 : decode cX0_peakOf 31 = .ok (.iconst (-1), 1) := by decide +kernel
theorem dX0_peakOf_32 : decode cX0_peakOf 32 = .ok (.ireturn, 1) := by decide +kernel
theorem dX0_peakOf_33 : decode cX0_peakOf 33 = .ok (.iload 4, 2) := by decide +kernel
theorem dX0_peakOf_35 : decode cX0_peakOf 35 = .ok (.iload_n 3, 1) := by decide +kernel
theorem dX0_peakOf_36 : decode cX0_peakOf 36 = .ok (.invokestatic 61, 3) := by decide +kernel
theorem dX0_peakOf_39 : decode cX0_peakOf 39 = .ok (.istore 4, 2) := by decide +kernel
theorem dX0_peakOf_41 : decode cX0_peakOf 41 = .ok (.iinc 5 1, 3) := by decide +kernel
theorem dX0_peakOf_44 : decode cX0_peakOf 44 = .ok (.goto (-36), 3) := by decide +kernel
theorem dX0_peakOf_47 : decode cX0_peakOf 47 = .ok (.iload 4, 2) := by decide +kernel
theorem dX0_peakOf_49 : decode cX0_peakOf 49 = .ok (.ireturn, 1) := by decide +kernel
theorem dX0_priceOf_0 : decode cX0_priceOf 0 = .ok (.iconst 0, 1) := by decide +kernel
theorem dX0_priceOf_1 : decode cX0_priceOf 1 = .ok (.istore_n 2, 1) := by decide +kernel
theorem dX0_priceOf_2 : decode cX0_priceOf 2 = .ok (.iconst 1, 1) := by decide +kernel
theorem dX0_priceOf_3 : decode cX0_priceOf 3 = .ok (.istore_n 3, 1) := by decide +kernel
theorem dX0_priceOf_4 : decode cX0_priceOf 4 = .ok (.iload_n 3, 1) := by decide +kernel
theorem dX0_priceOf_5 : decode cX0_priceOf 5 = .ok (.aload_n 0, 1) := by decide +kernel
theorem dX0_priceOf_6 : decode cX0_priceOf 6 = .ok (.getfield 18, 3) := by decide +kernel
theorem dX0_priceOf_9 : decode cX0_priceOf 9 = .ok (.if_icmp .ge 31, 3) := by decide +kernel
theorem dX0_priceOf_12 : decode cX0_priceOf 12 = .ok (.aload_n 0, 1) := by decide +kernel
theorem dX0_priceOf_13 : decode cX0_priceOf 13 = .ok (.iload_n 1, 1) := by decide +kernel
theorem dX0_priceOf_14 : decode cX0_priceOf 14 = .ok (.iload_n 3, 1) := by decide +kernel
theorem dX0_priceOf_15 : decode cX0_priceOf 15 = .ok (.invokevirtual 76, 3) := by decide +kernel
theorem dX0_priceOf_18 : decode cX0_priceOf 18 = .ok (.ifCond .eq 16, 3) := by decide +kernel
theorem dX0_priceOf_21 : decode cX0_priceOf 21 = .ok (.iload_n 2, 1) := by decide +kernel
theorem dX0_priceOf_22 : decode cX0_priceOf 22 = .ok (.getstatic 82, 3) := by decide +kernel
theorem dX0_priceOf_25 : decode cX0_priceOf 25 = .ok (.aload_n 0, 1) := by decide +kernel
theorem dX0_priceOf_26 : decode cX0_priceOf 26 = .ok (.getfield 15, 3) := by decide +kernel
theorem dX0_priceOf_29 : decode cX0_priceOf 29 = .ok (.iload_n 3, 1) := by decide +kernel
theorem dX0_priceOf_30 : decode cX0_priceOf 30 = .ok (.iaload, 1) := by decide +kernel
theorem dX0_priceOf_31 : decode cX0_priceOf 31 = .ok (.iaload, 1) := by decide +kernel
theorem dX0_priceOf_32 : decode cX0_priceOf 32 = .ok (.iadd, 1) := by decide +kernel
theorem dX0_priceOf_33 : decode cX0_priceOf 33 = .ok (.istore_n 2, 1) := by decide +kernel
theorem dX0_priceOf_34 : decode cX0_priceOf 34 = .ok (.iinc 3 1, 3) := by decide +kernel
theorem dX0_priceOf_37 : decode cX0_priceOf 37 = .ok (.goto (-33), 3) := by decide +kernel
theorem dX0_priceOf_40 : decode cX0_priceOf 40 = .ok (.iload_n 2, 1) := by decide +kernel
theorem dX0_priceOf_41 : decode cX0_priceOf 41 = .ok (.ireturn, 1) := by decide +kernel
theorem dX0_turnsOf_0 : decode cX0_turnsOf 0 = .ok (.iconst 0, 1) := by decide +kernel
theorem dX0_turnsOf_1 : decode cX0_turnsOf 1 = .ok (.istore_n 2, 1) := by decide +kernel
theorem dX0_turnsOf_2 : decode cX0_turnsOf 2 = .ok (.iconst 1, 1) := by decide +kernel
theorem dX0_turnsOf_3 : decode cX0_turnsOf 3 = .ok (.istore_n 3, 1) := by decide +kernel
theorem dX0_turnsOf_4 : decode cX0_turnsOf 4 = .ok (.iload_n 3, 1) := by decide +kernel
theorem dX0_turnsOf_5 : decode cX0_turnsOf 5 = .ok (.aload_n 0, 1) := by decide +kernel
theorem dX0_turnsOf_6 : decode cX0_turnsOf 6 = .ok (.getfield 18, 3) := by decide +kernel
theorem dX0_turnsOf_9 : decode cX0_turnsOf 9 = .ok (.if_icmp .ge 21, 3) := by decide +kernel
theorem dX0_turnsOf_12 : decode cX0_turnsOf 12 = .ok (.aload_n 0, 1) := by decide +kernel
theorem dX0_turnsOf_13 : decode cX0_turnsOf 13 = .ok (.iload_n 1, 1) := by decide +kernel
theorem dX0_turnsOf_14 : decode cX0_turnsOf 14 = .ok (.iload_n 3, 1) := by decide +kernel
theorem dX0_turnsOf_15 : decode cX0_turnsOf 15 = .ok (.invokevirtual 76, 3) := by decide +kernel
theorem dX0_turnsOf_18 : decode cX0_turnsOf 18 = .ok (.ifCond .eq 6, 3) := by decide +kernel
theorem dX0_turnsOf_21 : decode cX0_turnsOf 21 = .ok (.iinc 2 1, 3) := by decide +kernel
theorem dX0_turnsOf_24 : decode cX0_turnsOf 24 = .ok (.iinc 3 1, 3) := by decide +kernel
theorem dX0_turnsOf_27 : decode cX0_turnsOf 27 = .ok (.goto (-23), 3) := by decide +kernel
theorem dX0_turnsOf_30 : decode cX0_turnsOf 30 = .ok (.iload_n 2, 1) := by decide +kernel
theorem dX0_turnsOf_31 : decode cX0_turnsOf 31 = .ok (.ireturn, 1) := by decide +kernel
theorem dX0_airBehind_0 : decode cX0_airBehind 0 = .ok (.iload_n 2, 1) := by decide +kernel
theorem dX0_airBehind_1 : decode cX0_airBehind 1 = .ok (.istore_n 3, 1) := by decide +kernel
theorem dX0_airBehind_2 : decode cX0_airBehind 2 = .ok (.iconst 0, 1) := by decide +kernel
theorem dX0_airBehind_3 : decode cX0_airBehind 3 = .ok (.istore 4, 2) := by decide +kernel
theorem dX0_airBehind_5 : decode cX0_airBehind 5 = .ok (.iload 4, 2) := by decide +kernel
theorem dX0_airBehind_7 : decode cX0_airBehind 7 = .ok (.iload_n 1, 1) := by decide +kernel
theorem dX0_airBehind_8 : decode cX0_airBehind 8 = .ok (.if_icmp .gt 22, 3) := by decide +kernel
theorem dX0_airBehind_11 : decode cX0_airBehind 11 = .ok (.iload_n 3, 1) := by decide +kernel
theorem dX0_airBehind_12 : decode cX0_airBehind 12 = .ok (.aload_n 0, 1) := by decide +kernel
theorem dX0_airBehind_13 : decode cX0_airBehind 13 = .ok (.aload_n 0, 1) := by decide +kernel
theorem dX0_airBehind_14 : decode cX0_airBehind 14 = .ok (.getfield 22, 3) := by decide +kernel
theorem dX0_airBehind_17 : decode cX0_airBehind 17 = .ok (.iload 4, 2) := by decide +kernel
theorem dX0_airBehind_19 : decode cX0_airBehind 19 = .ok (.invokevirtual 79, 3) := by decide +kernel
theorem dX0_airBehind_22 : decode cX0_airBehind 22 = .ok (.iadd, 1) := by decide +kernel
theorem dX0_airBehind_23 : decode cX0_airBehind 23 = .ok (.istore_n 3, 1) := by decide +kernel
theorem dX0_airBehind_24 : decode cX0_airBehind 24 = .ok (.iinc 4 1, 3) := by decide +kernel
theorem dX0_airBehind_27 : decode cX0_airBehind 27 = .ok (.goto (-22), 3) := by decide +kernel
theorem dX0_airBehind_30 : decode cX0_airBehind 30 = .ok (.iload_n 3, 1) := by decide +kernel
theorem dX0_airBehind_31 : decode cX0_airBehind 31 = .ok (.ireturn, 1) := by decide +kernel
theorem dX1_init_0 : decode cX1_init 0 = .ok (.aload_n 0, 1) := by decide +kernel
theorem dX1_init_1 : decode cX1_init 1 = .ok (.invokespecial 3, 3) := by decide +kernel
theorem dX1_init_4 : decode cX1_init 4 = .ok (.aload_n 0, 1) := by decide +kernel
theorem dX1_init_5 : decode cX1_init 5 = .ok (.bipush 72, 2) := by decide +kernel
theorem dX1_init_7 : decode cX1_init 7 = .ok (.newarray .int, 2) := by decide +kernel
theorem dX1_init_9 : decode cX1_init 9 = .ok (.putfield 9, 3) := by decide +kernel
theorem dX1_init_12 : decode cX1_init 12 = .ok (.aload_n 0, 1) := by decide +kernel
theorem dX1_init_13 : decode cX1_init 13 = .ok (.bipush 48, 2) := by decide +kernel
theorem dX1_init_15 : decode cX1_init 15 = .ok (.newarray .int, 2) := by decide +kernel
theorem dX1_init_17 : decode cX1_init 17 = .ok (.putfield 15, 3) := by decide +kernel
theorem dX1_init_20 : decode cX1_init 20 = .ok (.aload_n 0, 1) := by decide +kernel
theorem dX1_init_21 : decode cX1_init 21 = .ok (.iconst 0, 1) := by decide +kernel
theorem dX1_init_22 : decode cX1_init 22 = .ok (.putfield 18, 3) := by decide +kernel
theorem dX1_init_25 : decode cX1_init 25 = .ok (.return_, 1) := by decide +kernel
theorem dX1_tune_0 : decode cX1_tune 0 = .ok (.aload_n 0, 1) := by decide +kernel
theorem dX1_tune_1 : decode cX1_tune 1 = .ok (.iconst 0, 1) := by decide +kernel
theorem dX1_tune_2 : decode cX1_tune 2 = .ok (.putfield 18, 3) := by decide +kernel
theorem dX1_tune_5 : decode cX1_tune 5 = .ok (.iconst 0, 1) := by decide +kernel
theorem dX1_tune_6 : decode cX1_tune 6 = .ok (.istore_n 3, 1) := by decide +kernel
theorem dX1_tune_7 : decode cX1_tune 7 = .ok (.iload_n 3, 1) := by decide +kernel
theorem dX1_tune_8 : decode cX1_tune 8 = .ok (.bipush 72, 2) := by decide +kernel
theorem dX1_tune_10 : decode cX1_tune 10 = .ok (.if_icmp .ge 104, 3) := by decide +kernel
theorem dX1_tune_13 : decode cX1_tune 13 = .ok (.iload_n 3, 1) := by decide +kernel
theorem dX1_tune_14 : decode cX1_tune 14 = .ok (.bipush 6, 2) := by decide +kernel
theorem dX1_tune_16 : decode cX1_tune 16 = .ok (.irem, 1) := by decide +kernel
theorem dX1_tune_17 : decode cX1_tune 17 = .ok (.istore 4, 2) := by decide +kernel
theorem dX1_tune_19 : decode cX1_tune 19 = .ok (.iload_n 2, 1) := by decide +kernel
theorem dX1_tune_20 : decode cX1_tune 20 = .ok (.iload 4, 2) := by decide +kernel
theorem dX1_tune_22 : decode cX1_tune 22 = .ok (.ishr, 1) := by decide +kernel
theorem dX1_tune_23 : decode cX1_tune 23 = .ok (.iconst 1, 1) := by decide +kernel
theorem dX1_tune_24 : decode cX1_tune 24 = .ok (.iand, 1) := by decide +kernel
theorem dX1_tune_25 : decode cX1_tune 25 = .ok (.iconst 1, 1) := by decide +kernel
theorem dX1_tune_26 : decode cX1_tune 26 = .ok (.if_icmp .ne 7, 3) := by decide +kernel
theorem dX1_tune_29 : decode cX1_tune 29 = .ok (.iconst 1, 1) := by decide +kernel
theorem dX1_tune_30 : decode cX1_tune 30 = .ok (.goto 4, 3) := by decide +kernel
theorem dX1_tune_33 : decode cX1_tune 33 = .ok (.iconst 0, 1) := by decide +kernel
theorem dX1_tune_34 : decode cX1_tune 34 = .ok (.istore 5, 2) := by decide +kernel
theorem dX1_tune_36 : decode cX1_tune 36 = .ok (.aload_n 0, 1) := by decide +kernel
theorem dX1_tune_37 : decode cX1_tune 37 = .ok (.getfield 9, 3) := by decide +kernel
theorem dX1_tune_40 : decode cX1_tune 40 = .ok (.iload_n 3, 1) := by decide +kernel
theorem dX1_tune_41 : decode cX1_tune 41 = .ok (.iload 5, 2) := by decide +kernel
theorem dX1_tune_43 : decode cX1_tune 43 = .ok (.ifCond .eq 23, 3) := by decide +kernel
theorem dX1_tune_46 : decode cX1_tune 46 = .ok (.getstatic 22, 3) := by decide +kernel
theorem dX1_tune_49 : decode cX1_tune 49 = .ok (.iload 4, 2) := by decide +kernel
theorem dX1_tune_51 : decode cX1_tune 51 = .ok (.iaload, 1) := by decide +kernel
theorem dX1_tune_52 : decode cX1_tune 52 = .ok (.iload_n 1, 1) := by decide +kernel
theorem dX1_tune_53 : decode cX1_tune 53 = .ok (.iload_n 3, 1) := by decide +kernel
theorem dX1_tune_54 : decode cX1_tune 54 = .ok (.bipush 6, 2) := by decide +kernel
theorem dX1_tune_56 : decode cX1_tune 56 = .ok (.idiv, 1) := by decide +kernel
theorem dX1_tune_57 : decode cX1_tune 57 = .ok (.invokestatic 25, 3) := by decide +kernel
theorem dX1_tune_60 : decode cX1_tune 60 = .ok (.invokestatic 29, 3) := by decide +kernel
theorem dX1_tune_63 : decode cX1_tune 63 = .ok (.goto 4, 3) := by decide +kernel
theorem dX1_tune_66 : decode cX1_tune 66 = .ok (.iconst 0, 1) := by decide +kernel
theorem dX1_tune_67 : decode cX1_tune 67 = .ok (.iastore, 1) := by decide +kernel
theorem dX1_tune_68 : decode cX1_tune 68 = .ok (.iload 5, 2) := by decide +kernel
theorem dX1_tune_70 : decode cX1_tune 70 = .ok (.ifCond .eq 38, 3) := by decide +kernel
theorem dX1_tune_73 : decode cX1_tune 73 = .ok (.iload 4, 2) := by decide +kernel
theorem dX1_tune_75 : decode cX1_tune 75 = .ok (.iconst 2, 1) := by decide +kernel
theorem dX1_tune_76 : decode cX1_tune 76 = .ok (.if_icmp .lt 32, 3) := by decide +kernel
theorem dX1_tune_79 : decode cX1_tune 79 = .ok (.aload_n 0, 1) := by decide +kernel
theorem dX1_tune_80 : decode cX1_tune 80 = .ok (.getfield 18, 3) := by decide +kernel
theorem dX1_tune_83 : decode cX1_tune 83 = .ok (.bipush 48, 2) := by decide +kernel
theorem dX1_tune_85 : decode cX1_tune 85 = .ok (.if_icmp .ge 23, 3) := by decide +kernel
theorem dX1_tune_88 : decode cX1_tune 88 = .ok (.aload_n 0, 1) := by decide +kernel
theorem dX1_tune_89 : decode cX1_tune 89 = .ok (.getfield 15, 3) := by decide +kernel
theorem dX1_tune_92 : decode cX1_tune 92 = .ok (.aload_n 0, 1) := by decide +kernel
theorem dX1_tune_93 : decode cX1_tune 93 = .ok (.getfield 18, 3) := by decide +kernel
theorem dX1_tune_96 : decode cX1_tune 96 = .ok (.iload_n 3, 1) := by decide +kernel
theorem dX1_tune_97 : decode cX1_tune 97 = .ok (.iastore, 1) := by decide +kernel
theorem dX1_tune_98 : decode cX1_tune 98 = .ok (.aload_n 0, 1) := by decide +kernel
theorem dX1_tune_99 : decode cX1_tune 99 = .ok (.dup, 1) := by decide +kernel
theorem dX1_tune_100 : decode cX1_tune 100 = .ok (.getfield 18, 3) := by decide +kernel
theorem dX1_tune_103 : decode cX1_tune 103 = .ok (.iconst 1, 1) := by decide +kernel
theorem dX1_tune_104 : decode cX1_tune 104 = .ok (.iadd, 1) := by decide +kernel
theorem dX1_tune_105 : decode cX1_tune 105 = .ok (.putfield 18, 3) := by decide +kernel
theorem dX1_tune_108 : decode cX1_tune 108 = .ok (.iinc 3 1, 3) := by decide +kernel
theorem dX1_tune_111 : decode cX1_tune 111 = .ok (.goto (-104), 3) := by decide +kernel
theorem dX1_tune_114 : decode cX1_tune 114 = .ok (.return_, 1) := by decide +kernel
theorem dX1_raised_0 : decode cX1_raised 0 = .ok (.iload_n 0, 1) := by decide +kernel
theorem dX1_raised_1 : decode cX1_raised 1 = .ok (.iload_n 1, 1) := by decide +kernel
theorem dX1_raised_2 : decode cX1_raised 2 = .ok (.ishl, 1) := by decide +kernel
theorem dX1_raised_3 : decode cX1_raised 3 = .ok (.iload_n 0, 1) := by decide +kernel
theorem dX1_raised_4 : decode cX1_raised 4 = .ok (.bipush 12, 2) := by decide +kernel
theorem dX1_raised_6 : decode cX1_raised 6 = .ok (.iload_n 1, 1) := by decide +kernel
theorem dX1_raised_7 : decode cX1_raised 7 = .ok (.isub, 1) := by decide +kernel
theorem dX1_raised_8 : decode cX1_raised 8 = .ok (.ishr, 1) := by decide +kernel
theorem dX1_raised_9 : decode cX1_raised 9 = .ok (.ior, 1) := by decide +kernel
theorem dX1_raised_10 : decode cX1_raised 10 = .ok (.sipush 4095, 3) := by decide +kernel
theorem dX1_raised_13 : decode cX1_raised 13 = .ok (.iand, 1) := by decide +kernel
theorem dX1_raised_14 : decode cX1_raised 14 = .ok (.ireturn, 1) := by decide +kernel
theorem dX1_lowButton_0 : decode cX1_lowButton 0 = .ok (.iload_n 2, 1) := by decide +kernel
theorem dX1_lowButton_1 : decode cX1_lowButton 1 = .ok (.ifCond .ge 5, 3) := by decide +kernel
theorem dX1_lowButton_4 : decode cX1_lowButton 4 = .ok (.iconst (-1), 1) := by decide +kernel
theorem dX1_lowButton_5 : decode cX1_lowButton 5 = .ok (.ireturn, 1) := by decide +kernel
theorem dX1_lowButton_6 : decode cX1_lowButton 6 = .ok (.iload_n 1, 1) := by decide +kernel
theorem dX1_lowButton_7 : decode cX1_lowButton 7 = .ok (.istore_n 3, 1) := by decide +kernel
theorem dX1_lowButton_8 : decode cX1_lowButton 8 = .ok (.iload_n 3, 1) := by decide +kernel
theorem dX1_lowButton_9 : decode cX1_lowButton 9 = .ok (.bipush 72, 2) := by decide +kernel
theorem dX1_lowButton_11 : decode cX1_lowButton 11 = .ok (.if_icmp .ge 23, 3) := by decide +kernel
theorem dX1_lowButton_14 : decode cX1_lowButton 14 = .ok (.aload_n 0, 1) := by decide +kernel
theorem dX1_lowButton_15 : decode cX1_lowButton 15 = .ok (.getfield 9, 3) := by decide +kernel
theorem dX1_lowButton_18 : decode cX1_lowButton 18 = .ok (.iload_n 3, 1) := by decide +kernel
theorem dX1_lowButton_19 : decode cX1_lowButton 19 = .ok (.iaload, 1) := by decide +kernel
theorem dX1_lowButton_20 : decode cX1_lowButton 20 = .ok (.iconst 1, 1) := by decide +kernel
theorem dX1_lowButton_21 : decode cX1_lowButton 21 = .ok (.iload_n 2, 1) := by decide +kernel
theorem dX1_lowButton_22 : decode cX1_lowButton 22 = .ok (.ishl, 1) := by decide +kernel
theorem dX1_lowButton_23 : decode cX1_lowButton 23 = .ok (.if_icmp .ne 5, 3) := by decide +kernel
theorem dX1_lowButton_26 : decode cX1_lowButton 26 = .ok (.iload_n 3, 1) := by decide +kernel
theorem dX1_lowButton_27 : decode cX1_lowButton 27 = .ok (.ireturn, 1) := by decide +kernel
theorem dX1_lowButton_28 : decode cX1_lowButton 28 = .ok (.iinc 3 6, 3) := by decide +kernel
theorem dX1_lowButton_31 : decode cX1_lowButton 31 = .ok (.goto (-23), 3) := by decide +kernel
theorem dX1_lowButton_34 : decode cX1_lowButton 34 = .ok (.iconst (-1), 1) := by decide +kernel
theorem dX1_lowButton_35 : decode cX1_lowButton 35 = .ok (.ireturn, 1) := by decide +kernel
theorem dX2_init_0 : decode cX2_init 0 = .ok (.aload_n 0, 1) := by decide +kernel
theorem dX2_init_1 : decode cX2_init 1 = .ok (.invokespecial 3, 3) := by decide +kernel
theorem dX2_init_4 : decode cX2_init 4 = .ok (.aload_n 0, 1) := by decide +kernel
theorem dX2_init_5 : decode cX2_init 5 = .ok (.iconst 0, 1) := by decide +kernel
theorem dX2_init_6 : decode cX2_init 6 = .ok (.putfield 9, 3) := by decide +kernel
theorem dX2_init_9 : decode cX2_init 9 = .ok (.aload_n 0, 1) := by decide +kernel
theorem dX2_init_10 : decode cX2_init 10 = .ok (.bipush 63, 2) := by decide +kernel
theorem dX2_init_12 : decode cX2_init 12 = .ok (.putfield 15, 3) := by decide +kernel
theorem dX2_init_15 : decode cX2_init 15 = .ok (.aload_n 0, 1) := by decide +kernel
theorem dX2_init_16 : decode cX2_init 16 = .ok (.iconst 1, 1) := by decide +kernel
theorem dX2_init_17 : decode cX2_init 17 = .ok (.putfield 18, 3) := by decide +kernel
theorem dX2_init_20 : decode cX2_init 20 = .ok (.aload_n 0, 1) := by decide +kernel
theorem dX2_init_21 : decode cX2_init 21 = .ok (.bipush 100, 2) := by decide +kernel
theorem dX2_init_23 : decode cX2_init 23 = .ok (.putfield 21, 3) := by decide +kernel
theorem dX2_init_26 : decode cX2_init 26 = .ok (.aload_n 0, 1) := by decide +kernel
theorem dX2_init_27 : decode cX2_init 27 = .ok (.iconst 0, 1) := by decide +kernel
theorem dX2_init_28 : decode cX2_init 28 = .ok (.putfield 24, 3) := by decide +kernel
theorem dX2_init_31 : decode cX2_init 31 = .ok (.aload_n 0, 1) := by decide +kernel
theorem dX2_init_32 : decode cX2_init 32 = .ok (.iconst 0, 1) := by decide +kernel
theorem dX2_init_33 : decode cX2_init 33 = .ok (.putfield 27, 3) := by decide +kernel
theorem dX2_init_36 : decode cX2_init 36 = .ok (.aload_n 0, 1) := by decide +kernel
theorem dX2_init_37 : decode cX2_init 37 = .ok (.bipush 8, 2) := by decide +kernel
theorem dX2_init_39 : decode cX2_init 39 = .ok (.newarray .int, 2) := by decide +kernel
theorem dX2_init_41 : decode cX2_init 41 = .ok (.putfield 30, 3) := by decide +kernel
theorem dX2_init_44 : decode cX2_init 44 = .ok (.aload_n 0, 1) := by decide +kernel
theorem dX2_init_45 : decode cX2_init 45 = .ok (.bipush 8, 2) := by decide +kernel
theorem dX2_init_47 : decode cX2_init 47 = .ok (.newarray .int, 2) := by decide +kernel
theorem dX2_init_49 : decode cX2_init 49 = .ok (.putfield 34, 3) := by decide +kernel
theorem dX2_init_52 : decode cX2_init 52 = .ok (.aload_n 0, 1) := by decide +kernel
theorem dX2_init_53 : decode cX2_init 53 = .ok (.bipush 8, 2) := by decide +kernel
theorem dX2_init_55 : decode cX2_init 55 = .ok (.newarray .int, 2) := by decide +kernel
theorem dX2_init_57 : decode cX2_init 57 = .ok (.putfield 37, 3) := by decide +kernel
theorem dX2_init_60 : decode cX2_init 60 = .ok (.aload_n 0, 1) := by decide +kernel
theorem dX2_init_61 : decode cX2_init 61 = .ok (.bipush 8, 2) := by decide +kernel
theorem dX2_init_63 : decode cX2_init 63 = .ok (.newarray .int, 2) := by decide +kernel
theorem dX2_init_65 : decode cX2_init 65 = .ok (.putfield 40, 3) := by decide +kernel
theorem dX2_init_68 : decode cX2_init 68 = .ok (.return_, 1) := by decide +kernel
theorem dX2_has_0 : decode cX2_has 0 = .ok (.iload_n 1, 1) := by decide +kernel
theorem dX2_has_1 : decode cX2_has 1 = .ok (.ifCond .lt 15, 3) := by decide +kernel
theorem dX2_has_4 : decode cX2_has 4 = .ok (.iload_n 1, 1) := by decide +kernel
theorem dX2_has_5 : decode cX2_has 5 = .ok (.aload_n 0, 1) := by decide +kernel
theorem dX2_has_6 : decode cX2_has 6 = .ok (.getfield 27, 3) := by decide +kernel
theorem dX2_has_9 : decode cX2_has 9 = .ok (.if_icmp .ge 7, 3) := by decide +kernel
theorem dX2_has_12 : decode cX2_has 12 = .ok (.iconst 1, 1) := by decide +kernel
theorem dX2_has_13 : decode cX2_has 13 = .ok (.goto 4, 3) := by decide +kernel
theorem dX2_has_16 : decode cX2_has 16 = .ok (.iconst 0, 1) := by decide +kernel
theorem dX2_has_17 : decode cX2_has 17 = .ok (.ireturn, 1) := by decide +kernel
theorem dX2_write_0 : decode cX2_write 0 = .ok (.aload_n 0, 1) := by decide +kernel
theorem dX2_write_1 : decode cX2_write 1 = .ok (.getfield 30, 3) := by decide +kernel
theorem dX2_write_4 : decode cX2_write 4 = .ok (.iload_n 1, 1) := by decide +kernel
theorem dX2_write_5 : decode cX2_write 5 = .ok (.iload_n 2, 1) := by decide +kernel
theorem dX2_write_6 : decode cX2_write 6 = .ok (.iastore, 1) := by decide +kernel
theorem dX2_write_7 : decode cX2_write 7 = .ok (.aload_n 0, 1) := by decide +kernel
theorem dX2_write_8 : decode cX2_write 8 = .ok (.getfield 34, 3) := by decide +kernel
theorem dX2_write_11 : decode cX2_write 11 = .ok (.iload_n 1, 1) := by decide +kernel
theorem dX2_write_12 : decode cX2_write 12 = .ok (.iload_n 3, 1) := by decide +kernel
theorem dX2_write_13 : decode cX2_write 13 = .ok (.iastore, 1) := by decide +kernel
theorem dX2_write_14 : decode cX2_write 14 = .ok (.aload_n 0, 1) := by decide +kernel
theorem dX2_write_15 : decode cX2_write 15 = .ok (.getfield 37, 3) := by decide +kernel
theorem dX2_write_18 : decode cX2_write 18 = .ok (.iload_n 1, 1) := by decide +kernel
theorem dX2_write_19 : decode cX2_write 19 = .ok (.iload 4, 2) := by decide +kernel
theorem dX2_write_21 : decode cX2_write 21 = .ok (.iastore, 1) := by decide +kernel
theorem dX2_write_22 : decode cX2_write 22 = .ok (.aload_n 0, 1) := by decide +kernel
theorem dX2_write_23 : decode cX2_write 23 = .ok (.getfield 40, 3) := by decide +kernel
theorem dX2_write_26 : decode cX2_write 26 = .ok (.iload_n 1, 1) := by decide +kernel
theorem dX2_write_27 : decode cX2_write 27 = .ok (.iload 5, 2) := by decide +kernel
theorem dX2_write_29 : decode cX2_write 29 = .ok (.iastore, 1) := by decide +kernel
theorem dX2_write_30 : decode cX2_write 30 = .ok (.return_, 1) := by decide +kernel
theorem dX2_copyFrom_0 : decode cX2_copyFrom 0 = .ok (.aload_n 0, 1) := by decide +kernel
theorem dX2_copyFrom_1 : decode cX2_copyFrom 1 = .ok (.aload_n 1, 1) := by decide +kernel
theorem dX2_copyFrom_2 : decode cX2_copyFrom 2 = .ok (.getfield 9, 3) := by decide +kernel
theorem dX2_copyFrom_5 : decode cX2_copyFrom 5 = .ok (.putfield 9, 3) := by decide +kernel
theorem dX2_copyFrom_8 : decode cX2_copyFrom 8 = .ok (.aload_n 0, 1) := by decide +kernel
theorem dX2_copyFrom_9 : decode cX2_copyFrom 9 = .ok (.aload_n 1, 1) := by decide +kernel
theorem dX2_copyFrom_10 : decode cX2_copyFrom 10 = .ok (.getfield 15, 3) := by decide +kernel
theorem dX2_copyFrom_13 : decode cX2_copyFrom 13 = .ok (.putfield 15, 3) := by decide +kernel
theorem dX2_copyFrom_16 : decode cX2_copyFrom 16 = .ok (.aload_n 0, 1) := by decide +kernel
theorem dX2_copyFrom_17 : decode cX2_copyFrom 17 = .ok (.aload_n 1, 1) := by decide +kernel
theorem dX2_copyFrom_18 : decode cX2_copyFrom 18 = .ok (.getfield 18, 3) := by decide +kernel
theorem dX2_copyFrom_21 : decode cX2_copyFrom 21 = .ok (.putfield 18, 3) := by decide +kernel
theorem dX2_copyFrom_24 : decode cX2_copyFrom 24 = .ok (.aload_n 0, 1) := by decide +kernel
theorem dX2_copyFrom_25 : decode cX2_copyFrom 25 = .ok (.aload_n 1, 1) := by decide +kernel
theorem dX2_copyFrom_26 : decode cX2_copyFrom 26 = .ok (.getfield 21, 3) := by decide +kernel
theorem dX2_copyFrom_29 : decode cX2_copyFrom 29 = .ok (.putfield 21, 3) := by decide +kernel
theorem dX2_copyFrom_32 : decode cX2_copyFrom 32 = .ok (.aload_n 0, 1) := by decide +kernel
theorem dX2_copyFrom_33 : decode cX2_copyFrom 33 = .ok (.aload_n 1, 1) := by decide +kernel
theorem dX2_copyFrom_34 : decode cX2_copyFrom 34 = .ok (.getfield 24, 3) := by decide +kernel
theorem dX2_copyFrom_37 : decode cX2_copyFrom 37 = .ok (.putfield 24, 3) := by decide +kernel
theorem dX2_copyFrom_40 : decode cX2_copyFrom 40 = .ok (.aload_n 0, 1) := by decide +kernel
theorem dX2_copyFrom_41 : decode cX2_copyFrom 41 = .ok (.aload_n 1, 1) := by decide +kernel
theorem dX2_copyFrom_42 : decode cX2_copyFrom 42 = .ok (.getfield 27, 3) := by decide +kernel
theorem dX2_copyFrom_45 : decode cX2_copyFrom 45 = .ok (.putfield 27, 3) := by decide +kernel
theorem dX2_copyFrom_48 : decode cX2_copyFrom 48 = .ok (.iconst 0, 1) := by decide +kernel
theorem dX2_copyFrom_49 : decode cX2_copyFrom 49 = .ok (.istore_n 2, 1) := by decide +kernel
theorem dX2_copyFrom_50 : decode cX2_copyFrom 50 = .ok (.iload_n 2, 1) := by decide +kernel
theorem dX2_copyFrom_51 : decode cX2_copyFrom 51 = .ok (.bipush 8, 2) := by decide +kernel
theorem dX2_copyFrom_53 : decode cX2_copyFrom 53 = .ok (.if_icmp .ge 38, 3) := by decide +kernel
theorem dX2_copyFrom_56 : decode cX2_copyFrom 56 = .ok (.aload_n 0, 1) := by decide +kernel
theorem dX2_copyFrom_57 : decode cX2_copyFrom 57 = .ok (.iload_n 2, 1) := by decide +kernel
theorem dX2_copyFrom_58 : decode cX2_copyFrom 58 = .ok (.aload_n 1, 1) := by decide +kernel
theorem dX2_copyFrom_59 : decode cX2_copyFrom 59 = .ok (.getfield 30, 3) := by decide +kernel
theorem dX2_copyFrom_62 : decode cX2_copyFrom 62 = .ok (.iload_n 2, 1) := by decide +kernel
theorem dX2_copyFrom_63 : decode cX2_copyFrom 63 = .ok (.iaload, 1) := by decide +kernel
theorem dX2_copyFrom_64 : decode cX2_copyFrom 64 = .ok (.aload_n 1, 1) := by decide +kernel
theorem dX2_copyFrom_65 : decode cX2_copyFrom 65 = .ok (.getfield 34, 3) := by decide +kernel
theorem dX2_copyFrom_68 : decode cX2_copyFrom 68 = .ok (.iload_n 2, 1) := by decide +kernel
theorem dX2_copyFrom_69 : decode cX2_copyFrom 69 = .ok (.iaload, 1) := by decide +kernel
theorem dX2_copyFrom_70 : decode cX2_copyFrom 70 = .ok (.aload_n 1, 1) := by decide +kernel
theorem dX2_copyFrom_71 : decode cX2_copyFrom 71 = .ok (.getfield 37, 3) := by decide +kernel
theorem dX2_copyFrom_74 : decode cX2_copyFrom 74 = .ok (.iload_n 2, 1) := by decide +kernel
theorem dX2_copyFrom_75 : decode cX2_copyFrom 75 = .ok (.iaload, 1) := by decide +kernel
theorem dX2_copyFrom_76 : decode cX2_copyFrom 76 = .ok (.aload_n 1, 1) := by decide +kernel
theorem dX2_copyFrom_77 : decode cX2_copyFrom 77 = .ok (.getfield 40, 3) := by decide +kernel
theorem dX2_copyFrom_80 : decode cX2_copyFrom 80 = .ok (.iload_n 2, 1) := by decide +kernel
theorem dX2_copyFrom_81 : decode cX2_copyFrom 81 = .ok (.iaload, 1) := by decide +kernel
theorem dX2_copyFrom_82 : decode cX2_copyFrom 82 = .ok (.invokevirtual 43, 3) := by decide +kernel
theorem dX2_copyFrom_85 : decode cX2_copyFrom 85 = .ok (.iinc 2 1, 3) := by decide +kernel
theorem dX2_copyFrom_88 : decode cX2_copyFrom 88 = .ok (.goto (-38), 3) := by decide +kernel
theorem dX2_copyFrom_91 : decode cX2_copyFrom 91 = .ok (.return_, 1) := by decide +kernel
theorem dX3_init_0 : decode cX3_init 0 = .ok (.aload_n 0, 1) := by decide +kernel
theorem dX3_init_1 : decode cX3_init 1 = .ok (.invokespecial 3, 3) := by decide +kernel
theorem dX3_init_4 : decode cX3_init 4 = .ok (.aload_n 0, 1) := by decide +kernel
theorem dX3_init_5 : decode cX3_init 5 = .ok (.bipush 20, 2) := by decide +kernel
theorem dX3_init_7 : decode cX3_init 7 = .ok (.newarray .int, 2) := by decide +kernel
theorem dX3_init_9 : decode cX3_init 9 = .ok (.putfield 9, 3) := by decide +kernel
theorem dX3_init_12 : decode cX3_init 12 = .ok (.aload_n 0, 1) := by decide +kernel
theorem dX3_init_13 : decode cX3_init 13 = .ok (.iconst 0, 1) := by decide +kernel
theorem dX3_init_14 : decode cX3_init 14 = .ok (.putfield 15, 3) := by decide +kernel
theorem dX3_init_17 : decode cX3_init 17 = .ok (.aload_n 0, 1) := by decide +kernel
theorem dX3_init_18 : decode cX3_init 18 = .ok (.iconst 0, 1) := by decide +kernel
theorem dX3_init_19 : decode cX3_init 19 = .ok (.putfield 19, 3) := by decide +kernel
theorem dX3_init_22 : decode cX3_init 22 = .ok (.aload_n 0, 1) := by decide +kernel
theorem dX3_init_23 : decode cX3_init 23 = .ok (.iconst 0, 1) := by decide +kernel
theorem dX3_init_24 : decode cX3_init 24 = .ok (.putfield 22, 3) := by decide +kernel
theorem dX3_init_27 : decode cX3_init 27 = .ok (.aload_n 0, 1) := by decide +kernel
theorem dX3_init_28 : decode cX3_init 28 = .ok (.iconst 0, 1) := by decide +kernel
theorem dX3_init_29 : decode cX3_init 29 = .ok (.putfield 25, 3) := by decide +kernel
theorem dX3_init_32 : decode cX3_init 32 = .ok (.aload_n 0, 1) := by decide +kernel
theorem dX3_init_33 : decode cX3_init 33 = .ok (.iconst 0, 1) := by decide +kernel
theorem dX3_init_34 : decode cX3_init 34 = .ok (.putfield 28, 3) := by decide +kernel
theorem dX3_init_37 : decode cX3_init 37 = .ok (.aload_n 0, 1) := by decide +kernel
theorem dX3_init_38 : decode cX3_init 38 = .ok (.iconst (-1), 1) := by decide +kernel
theorem dX3_init_39 : decode cX3_init 39 = .ok (.putfield 31, 3) := by decide +kernel
theorem dX3_init_42 : decode cX3_init 42 = .ok (.aload_n 0, 1) := by decide +kernel
theorem dX3_init_43 : decode cX3_init 43 = .ok (.iconst (-1), 1) := by decide +kernel
theorem dX3_init_44 : decode cX3_init 44 = .ok (.putfield 34, 3) := by decide +kernel
theorem dX3_init_47 : decode cX3_init 47 = .ok (.aload_n 0, 1) := by decide +kernel
theorem dX3_init_48 : decode cX3_init 48 = .ok (.iconst 0, 1) := by decide +kernel
theorem dX3_init_49 : decode cX3_init 49 = .ok (.putfield 37, 3) := by decide +kernel
theorem dX3_init_52 : decode cX3_init 52 = .ok (.return_, 1) := by decide +kernel
theorem dX3_find_0 : decode cX3_find 0 = .ok (.aload_n 0, 1) := by decide +kernel
theorem dX3_find_1 : decode cX3_find 1 = .ok (.iload_n 2, 1) := by decide +kernel
theorem dX3_find_2 : decode cX3_find 2 = .ok (.putfield 28, 3) := by decide +kernel
theorem dX3_find_5 : decode cX3_find 5 = .ok (.aload_n 0, 1) := by decide +kernel
theorem dX3_find_6 : decode cX3_find 6 = .ok (.aload_n 1, 1) := by decide +kernel
theorem dX3_find_7 : decode cX3_find 7 = .ok (.iconst 0, 1) := by decide +kernel
theorem dX3_find_8 : decode cX3_find 8 = .ok (.iload_n 3, 1) := by decide +kernel
theorem dX3_find_9 : decode cX3_find 9 = .ok (.invokevirtual 40, 3) := by decide +kernel
theorem dX3_find_12 : decode cX3_find 12 = .ok (.putfield 31, 3) := by decide +kernel
theorem dX3_find_15 : decode cX3_find 15 = .ok (.aload_n 0, 1) := by decide +kernel
theorem dX3_find_16 : decode cX3_find 16 = .ok (.aload_n 1, 1) := by decide +kernel
theorem dX3_find_17 : decode cX3_find 17 = .ok (.iconst 1, 1) := by decide +kernel
theorem dX3_find_18 : decode cX3_find 18 = .ok (.iload_n 3, 1) := by decide +kernel
theorem dX3_find_19 : decode cX3_find 19 = .ok (.invokevirtual 40, 3) := by decide +kernel
theorem dX3_find_22 : decode cX3_find 22 = .ok (.putfield 34, 3) := by decide +kernel
theorem dX3_find_25 : decode cX3_find 25 = .ok (.aload_n 0, 1) := by decide +kernel
theorem dX3_find_26 : decode cX3_find 26 = .ok (.iconst 0, 1) := by decide +kernel
theorem dX3_find_27 : decode cX3_find 27 = .ok (.putfield 15, 3) := by decide +kernel
theorem dX3_find_30 : decode cX3_find 30 = .ok (.aload_n 0, 1) := by decide +kernel
theorem dX3_find_31 : decode cX3_find 31 = .ok (.ldc 48, 2) := by decide +kernel
theorem dX3_find_33 : decode cX3_find 33 = .ok (.putfield 37, 3) := by decide +kernel
theorem dX3_find_36 : decode cX3_find 36 = .ok (.aload_n 0, 1) := by decide +kernel
theorem dX3_find_37 : decode cX3_find 37 = .ok (.iconst (-1), 1) := by decide +kernel
theorem dX3_find_38 : decode cX3_find 38 = .ok (.iconst (-1), 1) := by decide +kernel
theorem dX3_find_39 : decode cX3_find 39 = .ok (.iconst 0, 1) := by decide +kernel
theorem dX3_find_40 : decode cX3_find 40 = .ok (.iconst 0, 1) := by decide +kernel
theorem dX3_find_41 : decode cX3_find 41 = .ok (.invokevirtual 49, 3) := by decide +kernel
theorem dX3_find_44 : decode cX3_find 44 = .ok (.aload_n 0, 1) := by decide +kernel
theorem dX3_find_45 : decode cX3_find 45 = .ok (.aload_n 1, 1) := by decide +kernel
theorem dX3_find_46 : decode cX3_find 46 = .ok (.invokevirtual 53, 3) := by decide +kernel
theorem dX3_find_49 : decode cX3_find 49 = .ok (.aload_n 0, 1) := by decide +kernel
theorem dX3_find_50 : decode cX3_find 50 = .ok (.getfield 37, 3) := by decide +kernel
theorem dX3_find_53 : decode cX3_find 53 = .ok (.iconst 4, 1) := by decide +kernel
theorem dX3_find_54 : decode cX3_find 54 = .ok (.ishr, 1) := by decide +kernel
theorem dX3_find_55 : decode cX3_find 55 = .ok (.ifCond .eq 8, 3) := by decide +kernel
theorem dX3_find_58 : decode cX3_find 58 = .ok (.aload_n 0, 1) := by decide +kernel
theorem dX3_find_59 : decode cX3_find 59 = .ok (.aload_n 1, 1) := by decide +kernel
theorem dX3_find_60 : decode cX3_find 60 = .ok (.invokevirtual 57, 3) := by decide +kernel
theorem dX3_find_63 : decode cX3_find 63 = .ok (.aload_n 0, 1) := by decide +kernel
theorem dX3_find_64 : decode cX3_find 64 = .ok (.aload_n 0, 1) := by decide +kernel
theorem dX3_find_65 : decode cX3_find 65 = .ok (.getfield 37, 3) := by decide +kernel
theorem dX3_find_68 : decode cX3_find 68 = .ok (.bipush 8, 2) := by decide +kernel
theorem dX3_find_70 : decode cX3_find 70 = .ok (.ishr, 1) := by decide +kernel
theorem dX3_find_71 : decode cX3_find 71 = .ok (.iload_n 3, 1) := by decide +kernel
theorem dX3_find_72 : decode cX3_find 72 = .ok (.ifCond .lt 14, 3) := by decide +kernel
theorem dX3_find_75 : decode cX3_find 75 = .ok (.aload_n 0, 1) := by decide +kernel
theorem dX3_find_76 : decode cX3_find 76 = .ok (.invokevirtual 60, 3) := by decide +kernel
theorem dX3_find_79 : decode cX3_find 79 = .ok (.ifCond .ne 7, 3) := by decide +kernel
theorem dX3_find_82 : decode cX3_find 82 = .ok (.iconst 1, 1) := by decide +kernel
theorem dX3_find_83 : decode cX3_find 83 = .ok (.goto 4, 3) := by decide +kernel
theorem dX3_find_86 : decode cX3_find 86 = .ok (.iconst 0, 1) := by decide +kernel
theorem dX3_find_87 : decode cX3_find 87 = .ok (.iadd, 1) := by decide +kernel
theorem dX3_find_88 : decode cX3_find 88 = .ok (.putfield 22, 3) := by decide +kernel
theorem dX3_find_91 : decode cX3_find 91 = .ok (.aload_n 0, 1) := by decide +kernel
theorem dX3_find_92 : decode cX3_find 92 = .ok (.aload_n 0, 1) := by decide +kernel
theorem dX3_find_93 : decode cX3_find 93 = .ok (.getfield 37, 3) := by decide +kernel
theorem dX3_find_96 : decode cX3_find 96 = .ok (.iconst 4, 1) := by decide +kernel
theorem dX3_find_97 : decode cX3_find 97 = .ok (.ishr, 1) := by decide +kernel
theorem dX3_find_98 : decode cX3_find 98 = .ok (.bipush 15, 2) := by decide +kernel
theorem dX3_find_100 : decode cX3_find 100 = .ok (.iand, 1) := by decide +kernel
theorem dX3_find_101 : decode cX3_find 101 = .ok (.putfield 25, 3) := by decide +kernel
theorem dX3_find_104 : decode cX3_find 104 = .ok (.aload_n 0, 1) := by decide +kernel
theorem dX3_find_105 : decode cX3_find 105 = .ok (.aload_n 0, 1) := by decide +kernel
theorem dX3_find_106 : decode cX3_find 106 = .ok (.getfield 37, 3) := by decide +kernel
theorem dX3_find_109 : decode cX3_find 109 = .ok (.bipush 15, 2) := by decide +kernel
theorem dX3_find_111 : decode cX3_find 111 = .ok (.iand, 1) := by decide +kernel
theorem dX3_find_112 : decode cX3_find 112 = .ok (.aload_n 0, 1) := by decide +kernel
theorem dX3_find_113 : decode cX3_find 113 = .ok (.invokevirtual 60, 3) := by decide +kernel
theorem dX3_find_116 : decode cX3_find 116 = .ok (.ifCond .eq 7, 3) := by decide +kernel
theorem dX3_find_119 : decode cX3_find 119 = .ok (.iconst 1, 1) := by decide +kernel
theorem dX3_find_120 : decode cX3_find 120 = .ok (.goto 4, 3) := by decide +kernel
theorem dX3_find_123 : decode cX3_find 123 = .ok (.iconst 0, 1) := by decide +kernel
theorem dX3_find_124 : decode cX3_find 124 = .ok (.iadd, 1) := by decide +kernel
theorem dX3_find_125 : decode cX3_find 125 = .ok (.putfield 19, 3) := by decide +kernel
theorem dX3_find_128 : decode cX3_find 128 = .ok (.return_, 1) := by decide +kernel
theorem dX3_hasLowButton_0 : decode cX3_hasLowButton 0 = .ok (.aload_n 0, 1) := by decide +kernel
theorem dX3_hasLowButton_1 : decode cX3_hasLowButton 1 = .ok (.getfield 31, 3) := by decide +kernel
theorem dX3_hasLowButton_4 : decode cX3_hasLowButton 4 = .ok (.iconst (-1), 1) := by decide +kernel
theorem dX3_hasLowButton_5 : decode cX3_hasLowButton 5 = .ok (.if_icmp .ne 11, 3) := by decide +kernel
theorem dX3_hasLowButton_8 : decode cX3_hasLowButton 8 = .ok (.aload_n 0, 1) := by decide +kernel
theorem dX3_hasLowButton_9 : decode cX3_hasLowButton 9 = .ok (.getfield 34, 3) := by decide +kernel
theorem dX3_hasLowButton_12 : decode cX3_hasLowButton 12 = .ok (.iconst (-1), 1) := by decide +kernel
theorem dX3_hasLowButton_13 : decode cX3_hasLowButton 13 = .ok (.if_icmp .eq 7, 3) := by decide +kernel
theorem dX3_hasLowButton_16 : decode cX3_hasLowButton 16 = .ok (.iconst 1, 1) := by decide +kernel
theorem dX3_hasLowButton_17 : decode cX3_hasLowButton 17 = .ok (.goto 4, 3) := by decide +kernel
theorem dX3_hasLowButton_20 : decode cX3_hasLowButton 20 = .ok (.iconst 0, 1) := by decide +kernel
theorem dX3_hasLowButton_21 : decode cX3_hasLowButton 21 = .ok (.ireturn, 1) := by decide +kernel
theorem dX3_offerSingles_0 : decode cX3_offerSingles 0 = .ok (.iconst 0, 1) := by decide +kernel
theorem dX3_offerSingles_1 : decode cX3_offerSingles 1 = .ok (.istore_n 2, 1) := by decide +kernel
theorem dX3_offerSingles_2 : decode cX3_offerSingles 2 = .ok (.iload_n 2, 1) := by decide +kernel
theorem dX3_offerSingles_3 : decode cX3_offerSingles 3 = .ok (.aload_n 1, 1) := by decide +kernel
theorem dX3_offerSingles_4 : decode cX3_offerSingles 4 = .ok (.getfield 64, 3) := by decide +kernel
theorem dX3_offerSingles_7 : decode cX3_offerSingles 7 = .ok (.if_icmp .ge 29, 3) := by decide +kernel
theorem dX3_offerSingles_10 : decode cX3_offerSingles 10 = .ok (.aload_n 1, 1) := by decide +kernel
theorem dX3_offerSingles_11 : decode cX3_offerSingles 11 = .ok (.getfield 67, 3) := by decide +kernel
theorem dX3_offerSingles_14 : decode cX3_offerSingles 14 = .ok (.iload_n 2, 1) := by decide +kernel
theorem dX3_offerSingles_15 : decode cX3_offerSingles 15 = .ok (.iaload, 1) := by decide +kernel
theorem dX3_offerSingles_16 : decode cX3_offerSingles 16 = .ok (.istore_n 3, 1) := by decide +kernel
theorem dX3_offerSingles_17 : decode cX3_offerSingles 17 = .ok (.aload_n 0, 1) := by decide +kernel
theorem dX3_offerSingles_18 : decode cX3_offerSingles 18 = .ok (.iconst (-1), 1) := by decide +kernel
theorem dX3_offerSingles_19 : decode cX3_offerSingles 19 = .ok (.iload_n 3, 1) := by decide +kernel
theorem dX3_offerSingles_20 : decode cX3_offerSingles 20 = .ok (.iconst 1, 1) := by decide +kernel
theorem dX3_offerSingles_21 : decode cX3_offerSingles 21 = .ok (.aload_n 1, 1) := by decide +kernel
theorem dX3_offerSingles_22 : decode cX3_offerSingles 22 = .ok (.getfield 70, 3) := by decide +kernel
theorem dX3_offerSingles_25 : decode cX3_offerSingles 25 = .ok (.iload_n 3, 1) := by decide +kernel
theorem dX3_offerSingles_26 : decode cX3_offerSingles 26 = .ok (.iaload, 1) := by decide +kernel
theorem dX3_offerSingles_27 : decode cX3_offerSingles 27 = .ok (.invokevirtual 49, 3) := by decide +kernel
theorem dX3_offerSingles_30 : decode cX3_offerSingles 30 = .ok (.iinc 2 1, 3) := by decide +kernel
theorem dX3_offerSingles_33 : decode cX3_offerSingles 33 = .ok (.goto (-31), 3) := by decide +kernel
theorem dX3_offerSingles_36 : decode cX3_offerSingles 36 = .ok (.return_, 1) := by decide +kernel
theorem dX3_offerPairs_0 : decode cX3_offerPairs 0 = .ok (.iconst 0, 1) := by decide +kernel
theorem dX3_offerPairs_1 : decode cX3_offerPairs 1 = .ok (.istore_n 2, 1) := by decide +kernel
theorem dX3_offerPairs_2 : decode cX3_offerPairs 2 = .ok (.iload_n 2, 1) := by decide +kernel
theorem dX3_offerPairs_3 : decode cX3_offerPairs 3 = .ok (.aload_n 1, 1) := by decide +kernel
theorem dX3_offerPairs_4 : decode cX3_offerPairs 4 = .ok (.getfield 64, 3) := by decide +kernel
theorem dX3_offerPairs_7 : decode cX3_offerPairs 7 = .ok (.if_icmp .ge 67, 3) := by decide +kernel
theorem dX3_offerPairs_10 : decode cX3_offerPairs 10 = .ok (.aload_n 1, 1) := by decide +kernel
theorem dX3_offerPairs_11 : decode cX3_offerPairs 11 = .ok (.getfield 67, 3) := by decide +kernel
theorem dX3_offerPairs_14 : decode cX3_offerPairs 14 = .ok (.iload_n 2, 1) := by decide +kernel
theorem dX3_offerPairs_15 : decode cX3_offerPairs 15 = .ok (.iaload, 1) := by decide +kernel
theorem dX3_offerPairs_16 : decode cX3_offerPairs 16 = .ok (.istore_n 3, 1) := by decide +kernel
theorem dX3_offerPairs_17 : decode cX3_offerPairs 17 = .ok (.iload_n 2, 1) := by decide +kernel
theorem dX3_offerPairs_18 : decode cX3_offerPairs 18 = .ok (.iconst 1, 1) := by decide +kernel
theorem dX3_offerPairs_19 : decode cX3_offerPairs 19 = .ok (.iadd, 1) := by decide +kernel
theorem dX3_offerPairs_20 : decode cX3_offerPairs 20 = .ok (.istore 4, 2) := by decide +kernel
theorem dX3_offerPairs_22 : decode cX3_offerPairs 22 = .ok (.iload 4, 2) := by decide +kernel
theorem dX3_offerPairs_24 : decode cX3_offerPairs 24 = .ok (.aload_n 1, 1) := by decide +kernel
theorem dX3_offerPairs_25 : decode cX3_offerPairs 25 = .ok (.getfield 64, 3) := by decide +kernel
theorem dX3_offerPairs_28 : decode cX3_offerPairs 28 = .ok (.if_icmp .ge 40, 3) := by decide +kernel
theorem dX3_offerPairs_31 : decode cX3_offerPairs 31 = .ok (.aload_n 1, 1) := by decide +kernel
theorem dX3_offerPairs_32 : decode cX3_offerPairs 32 = .ok (.getfield 67, 3) := by decide +kernel
theorem dX3_offerPairs_35 : decode cX3_offerPairs 35 = .ok (.iload 4, 2) := by decide +kernel
theorem dX3_offerPairs_37 : decode cX3_offerPairs 37 = .ok (.iaload, 1) := by decide +kernel
theorem dX3_offerPairs_38 : decode cX3_offerPairs 38 = .ok (.istore 5, 2) := by decide +kernel
theorem dX3_offerPairs_40 : decode cX3_offerPairs 40 = .ok (.aload_n 0, 1) := by decide +kernel
theorem dX3_offerPairs_41 : decode cX3_offerPairs 41 = .ok (.iload_n 3, 1) := by decide +kernel
theorem dX3_offerPairs_42 : decode cX3_offerPairs 42 = .ok (.iload 5, 2) := by decide +kernel
theorem dX3_offerPairs_44 : decode cX3_offerPairs 44 = .ok (.iconst 2, 1) := by decide +kernel
theorem dX3_offerPairs_45 : decode cX3_offerPairs 45 = .ok (.aload_n 1, 1) := by decide +kernel
theorem dX3_offerPairs_46 : decode cX3_offerPairs 46 = .ok (.getfield 70, 3) := by decide +kernel
theorem dX3_offerPairs_49 : decode cX3_offerPairs 49 = .ok (.iload_n 3, 1) := by decide +kernel
theorem dX3_offerPairs_50 : decode cX3_offerPairs 50 = .ok (.iaload, 1) := by decide +kernel
theorem dX3_offerPairs_51 : decode cX3_offerPairs 51 = .ok (.aload_n 1, 1) := by decide +kernel
theorem dX3_offerPairs_52 : decode cX3_offerPairs 52 = .ok (.getfield 70, 3) := by decide +kernel
theorem dX3_offerPairs_55 : decode cX3_offerPairs 55 = .ok (.iload 5, 2) := by decide +kernel
theorem dX3_offerPairs_57 : decode cX3_offerPairs 57 = .ok (.iaload, 1) := by decide +kernel
theorem dX3_offerPairs_58 : decode cX3_offerPairs 58 = .ok (.ior, 1) := by decide +kernel
theorem dX3_offerPairs_59 : decode cX3_offerPairs 59 = .ok (.invokevirtual 49, 3) := by decide +kernel
theorem dX3_offerPairs_62 : decode cX3_offerPairs 62 = .ok (.iinc 4 1, 3) := by decide +kernel
theorem dX3_offerPairs_65 : decode cX3_offerPairs 65 = .ok (.goto (-43), 3) := by decide +kernel
theorem dX3_offerPairs_68 : decode cX3_offerPairs 68 = .ok (.iinc 2 1, 3) := by decide +kernel
theorem dX3_offerPairs_71 : decode cX3_offerPairs 71 = .ok (.goto (-69), 3) := by decide +kernel
theorem dX3_offerPairs_74 : decode cX3_offerPairs 74 = .ok (.return_, 1) := by decide +kernel
theorem dX3_offer_0 : decode cX3_offer 0 = .ok (.aload_n 0, 1) := by decide +kernel
theorem dX3_offer_1 : decode cX3_offer 1 = .ok (.getfield 28, 3) := by decide +kernel
theorem dX3_offer_4 : decode cX3_offer 4 = .ok (.iload 4, 2) := by decide +kernel
theorem dX3_offer_6 : decode cX3_offer 6 = .ok (.iconst (-1), 1) := by decide +kernel
theorem dX3_offer_7 : decode cX3_offer 7 = .ok (.ixor, 1) := by decide +kernel
theorem dX3_offer_8 : decode cX3_offer 8 = .ok (.iand, 1) := by decide +kernel
theorem dX3_offer_9 : decode cX3_offer 9 = .ok (.invokestatic 73, 3) := by decide +kernel
theorem dX3_offer_12 : decode cX3_offer 12 = .ok (.istore 5, 2) := by decide +kernel
theorem dX3_offer_14 : decode cX3_offer 14 = .ok (.iload 4, 2) := by decide +kernel
theorem dX3_offer_16 : decode cX3_offer 16 = .ok (.aload_n 0, 1) := by decide +kernel
theorem dX3_offer_17 : decode cX3_offer 17 = .ok (.getfield 28, 3) := by decide +kernel
theorem dX3_offer_20 : decode cX3_offer 20 = .ok (.iconst (-1), 1) := by decide +kernel
theorem dX3_offer_21 : decode cX3_offer 21 = .ok (.ixor, 1) := by decide +kernel
theorem dX3_offer_22 : decode cX3_offer 22 = .ok (.iand, 1) := by decide +kernel
theorem dX3_offer_23 : decode cX3_offer 23 = .ok (.invokestatic 73, 3) := by decide +kernel
theorem dX3_offer_26 : decode cX3_offer 26 = .ok (.istore 6, 2) := by decide +kernel
theorem dX3_offer_28 : decode cX3_offer 28 = .ok (.iload 5, 2) := by decide +kernel
theorem dX3_offer_30 : decode cX3_offer 30 = .ok (.iconst 4, 1) := by decide +kernel
theorem dX3_offer_31 : decode cX3_offer 31 = .ok (.ishl, 1) := by decide +kernel
theorem dX3_offer_32 : decode cX3_offer 32 = .ok (.iload 6, 2) := by decide +kernel
theorem dX3_offer_34 : decode cX3_offer 34 = .ok (.ior, 1) := by decide +kernel
theorem dX3_offer_35 : decode cX3_offer 35 = .ok (.iconst 4, 1) := by decide +kernel
theorem dX3_offer_36 : decode cX3_offer 36 = .ok (.ishl, 1) := by decide +kernel
theorem dX3_offer_37 : decode cX3_offer 37 = .ok (.iload_n 3, 1) := by decide +kernel
theorem dX3_offer_38 : decode cX3_offer 38 = .ok (.ior, 1) := by decide +kernel
theorem dX3_offer_39 : decode cX3_offer 39 = .ok (.istore 7, 2) := by decide +kernel
theorem dX3_offer_41 : decode cX3_offer 41 = .ok (.iload 7, 2) := by decide +kernel
theorem dX3_offer_43 : decode cX3_offer 43 = .ok (.aload_n 0, 1) := by decide +kernel
theorem dX3_offer_44 : decode cX3_offer 44 = .ok (.getfield 37, 3) := by decide +kernel
theorem dX3_offer_47 : decode cX3_offer 47 = .ok (.if_icmp .ge 14, 3) := by decide +kernel
theorem dX3_offer_50 : decode cX3_offer 50 = .ok (.aload_n 0, 1) := by decide +kernel
theorem dX3_offer_51 : decode cX3_offer 51 = .ok (.iload 7, 2) := by decide +kernel
theorem dX3_offer_53 : decode cX3_offer 53 = .ok (.putfield 37, 3) := by decide +kernel
theorem dX3_offer_56 : decode cX3_offer 56 = .ok (.aload_n 0, 1) := by decide +kernel
theorem dX3_offer_57 : decode cX3_offer 57 = .ok (.iconst 0, 1) := by decide +kernel
theorem dX3_offer_58 : decode cX3_offer 58 = .ok (.putfield 15, 3) := by decide +kernel
theorem dX3_offer_61 : decode cX3_offer 61 = .ok (.iload 7, 2) := by decide +kernel
theorem dX3_offer_63 : decode cX3_offer 63 = .ok (.aload_n 0, 1) := by decide +kernel
theorem dX3_offer_64 : decode cX3_offer 64 = .ok (.getfield 37, 3) := by decide +kernel
theorem dX3_offer_67 : decode cX3_offer 67 = .ok (.if_icmp .ne 9, 3) := by decide +kernel
theorem dX3_offer_70 : decode cX3_offer 70 = .ok (.aload_n 0, 1) := by decide +kernel
theorem dX3_offer_71 : decode cX3_offer 71 = .ok (.iload_n 1, 1) := by decide +kernel
theorem dX3_offer_72 : decode cX3_offer 72 = .ok (.iload_n 2, 1) := by decide +kernel
theorem dX3_offer_73 : decode cX3_offer 73 = .ok (.invokevirtual 77, 3) := by decide +kernel
theorem dX3_offer_76 : decode cX3_offer 76 = .ok (.return_, 1) := by decide +kernel
theorem dX3_takeWithLow_0 : decode cX3_takeWithLow 0 = .ok (.aload_n 0, 1) := by decide +kernel
theorem dX3_takeWithLow_1 : decode cX3_takeWithLow 1 = .ok (.invokevirtual 60, 3) := by decide +kernel
theorem dX3_takeWithLow_4 : decode cX3_takeWithLow 4 = .ok (.ifCond .ne 13, 3) := by decide +kernel
theorem dX3_takeWithLow_7 : decode cX3_takeWithLow 7 = .ok (.aload_n 0, 1) := by decide +kernel
theorem dX3_takeWithLow_8 : decode cX3_takeWithLow 8 = .ok (.iconst (-1), 1) := by decide +kernel
theorem dX3_takeWithLow_9 : decode cX3_takeWithLow 9 = .ok (.iload_n 1, 1) := by decide +kernel
theorem dX3_takeWithLow_10 : decode cX3_takeWithLow 10 = .ok (.iload_n 2, 1) := by decide +kernel
theorem dX3_takeWithLow_11 : decode cX3_takeWithLow 11 = .ok (.invokestatic 81, 3) := by decide +kernel
theorem dX3_takeWithLow_14 : decode cX3_takeWithLow 14 = .ok (.invokevirtual 85, 3) := by decide +kernel
theorem dX3_takeWithLow_17 : decode cX3_takeWithLow 17 = .ok (.aload_n 0, 1) := by decide +kernel
theorem dX3_takeWithLow_18 : decode cX3_takeWithLow 18 = .ok (.getfield 31, 3) := by decide +kernel
theorem dX3_takeWithLow_21 : decode cX3_takeWithLow 21 = .ok (.iconst (-1), 1) := by decide +kernel
theorem dX3_takeWithLow_22 : decode cX3_takeWithLow 22 = .ok (.if_icmp .eq 16, 3) := by decide +kernel
theorem dX3_takeWithLow_25 : decode cX3_takeWithLow 25 = .ok (.aload_n 0, 1) := by decide +kernel
theorem dX3_takeWithLow_26 : decode cX3_takeWithLow 26 = .ok (.aload_n 0, 1) := by decide +kernel
theorem dX3_takeWithLow_27 : decode cX3_takeWithLow 27 = .ok (.getfield 31, 3) := by decide +kernel
theorem dX3_takeWithLow_30 : decode cX3_takeWithLow 30 = .ok (.iload_n 1, 1) := by decide +kernel
theorem dX3_takeWithLow_31 : decode cX3_takeWithLow 31 = .ok (.iload_n 2, 1) := by decide +kernel
theorem dX3_takeWithLow_32 : decode cX3_takeWithLow 32 = .ok (.invokestatic 81, 3) := by decide +kernel
theorem dX3_takeWithLow_35 : decode cX3_takeWithLow 35 = .ok (.invokevirtual 85, 3) := by decide +kernel
theorem dX3_takeWithLow_38 : decode cX3_takeWithLow 38 = .ok (.aload_n 0, 1) := by decide +kernel
theorem dX3_takeWithLow_39 : decode cX3_takeWithLow 39 = .ok (.getfield 34, 3) := by decide +kernel
theorem dX3_takeWithLow_42 : decode cX3_takeWithLow 42 = .ok (.iconst (-1), 1) := by decide +kernel
theorem dX3_takeWithLow_43 : decode cX3_takeWithLow 43 = .ok (.if_icmp .eq 16, 3) := by decide +kernel
theorem dX3_takeWithLow_46 : decode cX3_takeWithLow 46 = .ok (.aload_n 0, 1) := by decide +kernel
theorem dX3_takeWithLow_47 : decode cX3_takeWithLow 47 = .ok (.aload_n 0, 1) := by decide +kernel
theorem dX3_takeWithLow_48 : decode cX3_takeWithLow 48 = .ok (.getfield 34, 3) := by decide +kernel
theorem dX3_takeWithLow_51 : decode cX3_takeWithLow 51 = .ok (.iload_n 1, 1) := by decide +kernel
theorem dX3_takeWithLow_52 : decode cX3_takeWithLow 52 = .ok (.iload_n 2, 1) := by decide +kernel
theorem dX3_takeWithLow_53 : decode cX3_takeWithLow 53 = .ok (.invokestatic 81, 3) := by decide +kernel
theorem dX3_takeWithLow_56 : decode cX3_takeWithLow 56 = .ok (.invokevirtual 85, 3) := by decide +kernel
theorem dX3_takeWithLow_59 : decode cX3_takeWithLow 59 = .ok (.return_, 1) := by decide +kernel
theorem dX3_packed_0 : decode cX3_packed 0 = .ok (.iload_n 0, 1) := by decide +kernel
theorem dX3_packed_1 : decode cX3_packed 1 = .ok (.iload_n 1, 1) := by decide +kernel
theorem dX3_packed_2 : decode cX3_packed 2 = .ok (.iload_n 2, 1) := by decide +kernel
theorem dX3_packed_3 : decode cX3_packed 3 = .ok (.invokestatic 89, 3) := by decide +kernel
theorem dX3_packed_6 : decode cX3_packed 6 = .ok (.invokestatic 89, 3) := by decide +kernel
theorem dX3_packed_9 : decode cX3_packed 9 = .ok (.istore_n 3, 1) := by decide +kernel
theorem dX3_packed_10 : decode cX3_packed 10 = .ok (.iload_n 0, 1) := by decide +kernel
theorem dX3_packed_11 : decode cX3_packed 11 = .ok (.iload_n 1, 1) := by decide +kernel
theorem dX3_packed_12 : decode cX3_packed 12 = .ok (.iload_n 2, 1) := by decide +kernel
theorem dX3_packed_13 : decode cX3_packed 13 = .ok (.invokestatic 94, 3) := by decide +kernel
theorem dX3_packed_16 : decode cX3_packed 16 = .ok (.invokestatic 94, 3) := by decide +kernel
theorem dX3_packed_19 : decode cX3_packed 19 = .ok (.istore 4, 2) := by decide +kernel
theorem dX3_packed_21 : decode cX3_packed 21 = .ok (.iload_n 0, 1) := by decide +kernel
theorem dX3_packed_22 : decode cX3_packed 22 = .ok (.iload_n 1, 1) := by decide +kernel
theorem dX3_packed_23 : decode cX3_packed 23 = .ok (.iadd, 1) := by decide +kernel
theorem dX3_packed_24 : decode cX3_packed 24 = .ok (.iload_n 2, 1) := by decide +kernel
theorem dX3_packed_25 : decode cX3_packed 25 = .ok (.iadd, 1) := by decide +kernel
theorem dX3_packed_26 : decode cX3_packed 26 = .ok (.iload_n 3, 1) := by decide +kernel
theorem dX3_packed_27 : decode cX3_packed 27 = .ok (.isub, 1) := by decide +kernel
theorem dX3_packed_28 : decode cX3_packed 28 = .ok (.iload 4, 2) := by decide +kernel
theorem dX3_packed_30 : decode cX3_packed 30 = .ok (.isub, 1) := by decide +kernel
theorem dX3_packed_31 : decode cX3_packed 31 = .ok (.istore 5, 2) := by decide +kernel
theorem dX3_packed_33 : decode cX3_packed 33 = .ok (.iload_n 3, 1) := by decide +kernel
theorem dX3_packed_34 : decode cX3_packed 34 = .ok (.iconst 0, 1) := by decide +kernel
theorem dX3_packed_35 : decode cX3_packed 35 = .ok (.invokestatic 94, 3) := by decide +kernel
theorem dX3_packed_38 : decode cX3_packed 38 = .ok (.bipush 7, 2) := by decide +kernel
theorem dX3_packed_40 : decode cX3_packed 40 = .ok (.ishl, 1) := by decide +kernel
theorem dX3_packed_41 : decode cX3_packed 41 = .ok (.iload 5, 2) := by decide +kernel
theorem dX3_packed_43 : decode cX3_packed 43 = .ok (.iconst 0, 1) := by decide +kernel
theorem dX3_packed_44 : decode cX3_packed 44 = .ok (.invokestatic 94, 3) := by decide +kernel
theorem dX3_packed_47 : decode cX3_packed 47 = .ok (.ior, 1) := by decide +kernel
theorem dX3_packed_48 : decode cX3_packed 48 = .ok (.istore 6, 2) := by decide +kernel
theorem dX3_packed_50 : decode cX3_packed 50 = .ok (.iload 6, 2) := by decide +kernel
theorem dX3_packed_52 : decode cX3_packed 52 = .ok (.bipush 7, 2) := by decide +kernel
theorem dX3_packed_54 : decode cX3_packed 54 = .ok (.ishl, 1) := by decide +kernel
theorem dX3_packed_55 : decode cX3_packed 55 = .ok (.iload 4, 2) := by decide +kernel
theorem dX3_packed_57 : decode cX3_packed 57 = .ok (.iconst 0, 1) := by decide +kernel
theorem dX3_packed_58 : decode cX3_packed 58 = .ok (.invokestatic 94, 3) := by decide +kernel
theorem dX3_packed_61 : decode cX3_packed 61 = .ok (.ior, 1) := by decide +kernel
theorem dX3_packed_62 : decode cX3_packed 62 = .ok (.ireturn, 1) := by decide +kernel
theorem dX3_insert_0 : decode cX3_insert 0 = .ok (.aload_n 0, 1) := by decide +kernel
theorem dX3_insert_1 : decode cX3_insert 1 = .ok (.getfield 15, 3) := by decide +kernel
theorem dX3_insert_4 : decode cX3_insert 4 = .ok (.istore_n 2, 1) := by decide +kernel
theorem dX3_insert_5 : decode cX3_insert 5 = .ok (.aload_n 0, 1) := by decide +kernel
theorem dX3_insert_6 : decode cX3_insert 6 = .ok (.getfield 15, 3) := by decide +kernel
theorem dX3_insert_9 : decode cX3_insert 9 = .ok (.iconst 1, 1) := by decide +kernel
theorem dX3_insert_10 : decode cX3_insert 10 = .ok (.isub, 1) := by decide +kernel
theorem dX3_insert_11 : decode cX3_insert 11 = .ok (.istore_n 3, 1) := by decide +kernel
theorem dX3_insert_12 : decode cX3_insert 12 = .ok (.iload_n 3, 1) := by decide +kernel
theorem dX3_insert_13 : decode cX3_insert 13 = .ok (.ifCond .lt 21, 3) := by decide +kernel
theorem dX3_insert_16 : decode cX3_insert 16 = .ok (.aload_n 0, 1) := by decide +kernel
theorem dX3_insert_17 : decode cX3_insert 17 = .ok (.getfield 9, 3) := by decide +kernel
theorem dX3_insert_20 : decode cX3_insert 20 = .ok (.iload_n 3, 1) := by decide +kernel
theorem dX3_insert_21 : decode cX3_insert 21 = .ok (.iaload, 1) := by decide +kernel
theorem dX3_insert_22 : decode cX3_insert 22 = .ok (.iload_n 1, 1) := by decide +kernel
theorem dX3_insert_23 : decode cX3_insert 23 = .ok (.if_icmp .le 11, 3) := by decide +kernel
theorem dX3_insert_26 : decode cX3_insert 26 = .ok (.iload_n 3, 1) := by decide +kernel
theorem dX3_insert_27 : decode cX3_insert 27 = .ok (.istore_n 2, 1) := by decide +kernel
theorem dX3_insert_28 : decode cX3_insert 28 = .ok (.iinc 3 (-1), 3) := by decide +kernel
theorem dX3_insert_31 : decode cX3_insert 31 = .ok (.goto (-19), 3) := by decide +kernel
theorem dX3_insert_34 : decode cX3_insert 34 = .ok (.iload_n 2, 1) := by decide +kernel
theorem dX3_insert_35 : decode cX3_insert 35 = .ok (.bipush 20, 2) := by decide +kernel
theorem dX3_insert_37 : decode cX3_insert 37 = .ok (.if_icmp .lt 4, 3) := by decide +kernel
theorem dX3_insert_40 : decode cX3_insert 40 = .ok (.return_, 1) := by decide +kernel
theorem dX3_insert_41 : decode cX3_insert 41 = .ok (.aload_n 0, 1) := by decide +kernel
theorem dX3_insert_42 : decode cX3_insert 42 = .ok (.getfield 15, 3) := by decide +kernel
theorem dX3_insert_45 : decode cX3_insert 45 = .ok (.bipush 19, 2) := by decide +kernel
theorem dX3_insert_47 : decode cX3_insert 47 = .ok (.invokestatic 89, 3) := by decide +kernel
theorem dX3_insert_50 : decode cX3_insert 50 = .ok (.istore_n 3, 1) := by decide +kernel
theorem dX3_insert_51 : decode cX3_insert 51 = .ok (.iload_n 3, 1) := by decide +kernel
theorem dX3_insert_52 : decode cX3_insert 52 = .ok (.iload_n 2, 1) := by decide +kernel
theorem dX3_insert_53 : decode cX3_insert 53 = .ok (.if_icmp .le 23, 3) := by decide +kernel
theorem dX3_insert_56 : decode cX3_insert 56 = .ok (.aload_n 0, 1) := by decide +kernel
theorem dX3_insert_57 : decode cX3_insert 57 = .ok (.getfield 9, 3) := by decide +kernel
theorem dX3_insert_60 : decode cX3_insert 60 = .ok (.iload_n 3, 1) := by decide +kernel
theorem dX3_insert_61 : decode cX3_insert 61 = .ok (.aload_n 0, 1) := by decide +kernel
theorem dX3_insert_62 : decode cX3_insert 62 = .ok (.getfield 9, 3) := by decide +kernel
theorem dX3_insert_65 : decode cX3_insert 65 = .ok (.iload_n 3, 1) := by decide +kernel
theorem dX3_insert_66 : decode cX3_insert 66 = .ok (.iconst 1, 1) := by decide +kernel
theorem dX3_insert_67 : decode cX3_insert 67 = .ok (.isub, 1) := by decide +kernel
theorem dX3_insert_68 : decode cX3_insert 68 = .ok (.iaload, 1) := by decide +kernel
theorem dX3_insert_69 : decode cX3_insert 69 = .ok (.iastore, 1) := by decide +kernel
theorem dX3_insert_70 : decode cX3_insert 70 = .ok (.iinc 3 (-1), 3) := by decide +kernel
theorem dX3_insert_73 : decode cX3_insert 73 = .ok (.goto (-22), 3) := by decide +kernel
theorem dX3_insert_76 : decode cX3_insert 76 = .ok (.aload_n 0, 1) := by decide +kernel
theorem dX3_insert_77 : decode cX3_insert 77 = .ok (.getfield 9, 3) := by decide +kernel
theorem dX3_insert_80 : decode cX3_insert 80 = .ok (.iload_n 2, 1) := by decide +kernel
theorem dX3_insert_81 : decode cX3_insert 81 = .ok (.iload_n 1, 1) := by decide +kernel
theorem dX3_insert_82 : decode cX3_insert 82 = .ok (.iastore, 1) := by decide +kernel
theorem dX3_insert_83 : decode cX3_insert 83 = .ok (.aload_n 0, 1) := by decide +kernel
theorem dX3_insert_84 : decode cX3_insert 84 = .ok (.aload_n 0, 1) := by decide +kernel
theorem dX3_insert_85 : decode cX3_insert 85 = .ok (.getfield 15, 3) := by decide +kernel
theorem dX3_insert_88 : decode cX3_insert 88 = .ok (.iconst 1, 1) := by decide +kernel
theorem dX3_insert_89 : decode cX3_insert 89 = .ok (.iadd, 1) := by decide +kernel
theorem dX3_insert_90 : decode cX3_insert 90 = .ok (.bipush 20, 2) := by decide +kernel
theorem dX3_insert_92 : decode cX3_insert 92 = .ok (.invokestatic 89, 3) := by decide +kernel
theorem dX3_insert_95 : decode cX3_insert 95 = .ok (.putfield 15, 3) := by decide +kernel
theorem dX3_insert_98 : decode cX3_insert 98 = .ok (.return_, 1) := by decide +kernel
theorem dX3_buttonAt_0 : decode cX3_buttonAt 0 = .ok (.aload_n 0, 1) := by decide +kernel
theorem dX3_buttonAt_1 : decode cX3_buttonAt 1 = .ok (.getfield 9, 3) := by decide +kernel
theorem dX3_buttonAt_4 : decode cX3_buttonAt 4 = .ok (.iload_n 1, 1) := by decide +kernel
theorem dX3_buttonAt_5 : decode cX3_buttonAt 5 = .ok (.iaload, 1) := by decide +kernel
theorem dX3_buttonAt_6 : decode cX3_buttonAt 6 = .ok (.bipush 7, 2) := by decide +kernel
theorem dX3_buttonAt_8 : decode cX3_buttonAt 8 = .ok (.aload_n 0, 1) := by decide +kernel
theorem dX3_buttonAt_9 : decode cX3_buttonAt 9 = .ok (.getfield 19, 3) := by decide +kernel
theorem dX3_buttonAt_12 : decode cX3_buttonAt 12 = .ok (.iconst 1, 1) := by decide +kernel
theorem dX3_buttonAt_13 : decode cX3_buttonAt 13 = .ok (.isub, 1) := by decide +kernel
theorem dX3_buttonAt_14 : decode cX3_buttonAt 14 = .ok (.iload_n 2, 1) := by decide +kernel
theorem dX3_buttonAt_15 : decode cX3_buttonAt 15 = .ok (.isub, 1) := by decide +kernel
theorem dX3_buttonAt_16 : decode cX3_buttonAt 16 = .ok (.imul, 1) := by decide +kernel
theorem dX3_buttonAt_17 : decode cX3_buttonAt 17 = .ok (.ishr, 1) := by decide +kernel
theorem dX3_buttonAt_18 : decode cX3_buttonAt 18 = .ok (.bipush 127, 2) := by decide +kernel
theorem dX3_buttonAt_20 : decode cX3_buttonAt 20 = .ok (.iand, 1) := by decide +kernel
theorem dX3_buttonAt_21 : decode cX3_buttonAt 21 = .ok (.ireturn, 1) := by decide +kernel
theorem dX3_placeOf_0 : decode cX3_placeOf 0 = .ok (.aload_n 0, 1) := by decide +kernel
theorem dX3_placeOf_1 : decode cX3_placeOf 1 = .ok (.iload_n 1, 1) := by decide +kernel
theorem dX3_placeOf_2 : decode cX3_placeOf 2 = .ok (.iconst 0, 1) := by decide +kernel
theorem dX3_placeOf_3 : decode cX3_placeOf 3 = .ok (.invokevirtual 97, 3) := by decide +kernel
theorem dX3_placeOf_6 : decode cX3_placeOf 6 = .ok (.bipush 6, 2) := by decide +kernel
theorem dX3_placeOf_8 : decode cX3_placeOf 8 = .ok (.idiv, 1) := by decide +kernel
theorem dX3_placeOf_9 : decode cX3_placeOf 9 = .ok (.ireturn, 1) := by decide +kernel
theorem dX4_init_0 : decode cX4_init 0 = .ok (.aload_n 0, 1) := by decide +kernel
theorem dX4_init_1 : decode cX4_init 1 = .ok (.invokespecial 3, 3) := by decide +kernel
theorem dX4_init_4 : decode cX4_init 4 = .ok (.aload_n 0, 1) := by decide +kernel
theorem dX4_init_5 : decode cX4_init 5 = .ok (.new 9, 3) := by decide +kernel
theorem dX4_init_8 : decode cX4_init 8 = .ok (.dup, 1) := by decide +kernel
theorem dX4_init_9 : decode cX4_init 9 = .ok (.invokespecial 11, 3) := by decide +kernel
theorem dX4_init_12 : decode cX4_init 12 = .ok (.putfield 12, 3) := by decide +kernel
theorem dX4_init_15 : decode cX4_init 15 = .ok (.aload_n 0, 1) := by decide +kernel
theorem dX4_init_16 : decode cX4_init 16 = .ok (.bipush 8, 2) := by decide +kernel
theorem dX4_init_18 : decode cX4_init 18 = .ok (.anewarray 18, 3) := by decide +kernel
theorem dX4_init_21 : decode cX4_init 21 = .ok (.putfield 20, 3) := by decide +kernel
theorem dX4_init_24 : decode cX4_init 24 = .ok (.aload_n 0, 1) := by decide +kernel
theorem dX4_init_25 : decode cX4_init 25 = .ok (.bipush 8, 2) := by decide +kernel
theorem dX4_init_27 : decode cX4_init 27 = .ok (.newarray .int, 2) := by decide +kernel
theorem dX4_init_29 : decode cX4_init 29 = .ok (.putfield 24, 3) := by decide +kernel
theorem dX4_init_32 : decode cX4_init 32 = .ok (.aload_n 0, 1) := by decide +kernel
theorem dX4_init_33 : decode cX4_init 33 = .ok (.iconst 0, 1) := by decide +kernel
theorem dX4_init_34 : decode cX4_init 34 = .ok (.putfield 28, 3) := by decide +kernel
theorem dX4_init_37 : decode cX4_init 37 = .ok (.aload_n 0, 1) := by decide +kernel
theorem dX4_init_38 : decode cX4_init 38 = .ok (.bipush 8, 2) := by decide +kernel
theorem dX4_init_40 : decode cX4_init 40 = .ok (.bipush 20, 2) := by decide +kernel
theorem dX4_init_42 : decode cX4_init 42 = .ok (.multianewarray 32 2, 4) := by decide +kernel
theorem dX4_init_46 : decode cX4_init 46 = .ok (.putfield 34, 3) := by decide +kernel
theorem dX4_init_49 : decode cX4_init 49 = .ok (.iconst 0, 1) := by decide +kernel
theorem dX4_init_50 : decode cX4_init 50 = .ok (.istore_n 1, 1) := by decide +kernel
theorem dX4_init_51 : decode cX4_init 51 = .ok (.iload_n 1, 1) := by decide +kernel
theorem dX4_init_52 : decode cX4_init 52 = .ok (.bipush 8, 2) := by decide +kernel
theorem dX4_init_54 : decode cX4_init 54 = .ok (.if_icmp .ge 22, 3) := by decide +kernel
theorem dX4_init_57 : decode cX4_init 57 = .ok (.aload_n 0, 1) := by decide +kernel
theorem dX4_init_58 : decode cX4_init 58 = .ok (.getfield 20, 3) := by decide +kernel
theorem dX4_init_61 : decode cX4_init 61 = .ok (.iload_n 1, 1) := by decide +kernel
theorem dX4_init_62 : decode cX4_init 62 = .ok (.new 18, 3) := by decide +kernel
theorem dX4_init_65 : decode cX4_init 65 = .ok (.dup, 1) := by decide +kernel
theorem dX4_init_66 : decode cX4_init 66 = .ok (.invokespecial 37, 3) := by decide +kernel
theorem dX4_init_69 : decode cX4_init 69 = .ok (.aastore, 1) := by decide +kernel
theorem dX4_init_70 : decode cX4_init 70 = .ok (.iinc 1 1, 3) := by decide +kernel
theorem dX4_init_73 : decode cX4_init 73 = .ok (.goto (-22), 3) := by decide +kernel
theorem dX4_init_76 : decode cX4_init 76 = .ok (.return_, 1) := by decide +kernel
theorem dX4_learn_0 : decode cX4_learn 0 = .ok (.aload_n 0, 1) := by decide +kernel
theorem dX4_learn_1 : decode cX4_learn 1 = .ok (.getfield 12, 3) := by decide +kernel
theorem dX4_learn_4 : decode cX4_learn 4 = .ok (.iload_n 1, 1) := by decide +kernel
theorem dX4_learn_5 : decode cX4_learn 5 = .ok (.iload_n 2, 1) := by decide +kernel
theorem dX4_learn_6 : decode cX4_learn 6 = .ok (.invokevirtual 38, 3) := by decide +kernel
theorem dX4_learn_9 : decode cX4_learn 9 = .ok (.iconst 0, 1) := by decide +kernel
theorem dX4_learn_10 : decode cX4_learn 10 = .ok (.istore 4, 2) := by decide +kernel
theorem dX4_learn_12 : decode cX4_learn 12 = .ok (.iload 4, 2) := by decide +kernel
theorem dX4_learn_14 : decode cX4_learn 14 = .ok (.aload_n 3, 1) := by decide +kernel
theorem dX4_learn_15 : decode cX4_learn 15 = .ok (.getfield 42, 3) := by decide +kernel
theorem dX4_learn_18 : decode cX4_learn 18 = .ok (.if_icmp .ge 37, 3) := by decide +kernel
theorem dX4_learn_21 : decode cX4_learn 21 = .ok (.aload_n 0, 1) := by decide +kernel
theorem dX4_learn_22 : decode cX4_learn 22 = .ok (.getfield 20, 3) := by decide +kernel
theorem dX4_learn_25 : decode cX4_learn 25 = .ok (.iload 4, 2) := by decide +kernel
theorem dX4_learn_27 : decode cX4_learn 27 = .ok (.aaload, 1) := by decide +kernel
theorem dX4_learn_28 : decode cX4_learn 28 = .ok (.aload_n 0, 1) := by decide +kernel
theorem dX4_learn_29 : decode cX4_learn 29 = .ok (.getfield 12, 3) := by decide +kernel
theorem dX4_learn_32 : decode cX4_learn 32 = .ok (.aload_n 3, 1) := by decide +kernel
theorem dX4_learn_33 : decode cX4_learn 33 = .ok (.getfield 47, 3) := by decide +kernel
theorem dX4_learn_36 : decode cX4_learn 36 = .ok (.iload 4, 2) := by decide +kernel
theorem dX4_learn_38 : decode cX4_learn 38 = .ok (.iaload, 1) := by decide +kernel
theorem dX4_learn_39 : decode cX4_learn 39 = .ok (.aload_n 3, 1) := by decide +kernel
theorem dX4_learn_40 : decode cX4_learn 40 = .ok (.getfield 50, 3) := by decide +kernel
theorem dX4_learn_43 : decode cX4_learn 43 = .ok (.iload 4, 2) := by decide +kernel
theorem dX4_learn_45 : decode cX4_learn 45 = .ok (.iaload, 1) := by decide +kernel
theorem dX4_learn_46 : decode cX4_learn 46 = .ok (.invokevirtual 53, 3) := by decide +kernel
theorem dX4_learn_49 : decode cX4_learn 49 = .ok (.iinc 4 1, 3) := by decide +kernel
theorem dX4_learn_52 : decode cX4_learn 52 = .ok (.goto (-40), 3) := by decide +kernel
theorem dX4_learn_55 : decode cX4_learn 55 = .ok (.return_, 1) := by decide +kernel
theorem dX4_choose_0 : decode cX4_choose 0 = .ok (.aload_n 0, 1) := by decide +kernel
theorem dX4_choose_1 : decode cX4_choose 1 = .ok (.iload_n 1, 1) := by decide +kernel
theorem dX4_choose_2 : decode cX4_choose 2 = .ok (.invokevirtual 57, 3) := by decide +kernel
theorem dX4_choose_5 : decode cX4_choose 5 = .ok (.aload_n 0, 1) := by decide +kernel
theorem dX4_choose_6 : decode cX4_choose 6 = .ok (.iconst 0, 1) := by decide +kernel
theorem dX4_choose_7 : decode cX4_choose 7 = .ok (.putfield 28, 3) := by decide +kernel
theorem dX4_choose_10 : decode cX4_choose 10 = .ok (.iconst (-1), 1) := by decide +kernel
theorem dX4_choose_11 : decode cX4_choose 11 = .ok (.istore_n 2, 1) := by decide +kernel
theorem dX4_choose_12 : decode cX4_choose 12 = .ok (.iconst 0, 1) := by decide +kernel
theorem dX4_choose_13 : decode cX4_choose 13 = .ok (.istore_n 3, 1) := by decide +kernel
theorem dX4_choose_14 : decode cX4_choose 14 = .ok (.iload_n 3, 1) := by decide +kernel
theorem dX4_choose_15 : decode cX4_choose 15 = .ok (.iload_n 1, 1) := by decide +kernel
theorem dX4_choose_16 : decode cX4_choose 16 = .ok (.if_icmp .ge 63, 3) := by decide +kernel
theorem dX4_choose_19 : decode cX4_choose 19 = .ok (.aload_n 0, 1) := by decide +kernel
theorem dX4_choose_20 : decode cX4_choose 20 = .ok (.getfield 24, 3) := by decide +kernel
theorem dX4_choose_23 : decode cX4_choose 23 = .ok (.iload_n 3, 1) := by decide +kernel
theorem dX4_choose_24 : decode cX4_choose 24 = .ok (.iconst 0, 1) := by decide +kernel
theorem dX4_choose_25 : decode cX4_choose 25 = .ok (.iastore, 1) := by decide +kernel
theorem dX4_choose_26 : decode cX4_choose 26 = .ok (.aload_n 0, 1) := by decide +kernel
theorem dX4_choose_27 : decode cX4_choose 27 = .ok (.getfield 20, 3) := by decide +kernel
theorem dX4_choose_30 : decode cX4_choose 30 = .ok (.iload_n 3, 1) := by decide +kernel
theorem dX4_choose_31 : decode cX4_choose 31 = .ok (.aaload, 1) := by decide +kernel
theorem dX4_choose_32 : decode cX4_choose 32 = .ok (.getfield 61, 3) := by decide +kernel
theorem dX4_choose_35 : decode cX4_choose 35 = .ok (.ifCond .le 38, 3) := by decide +kernel
theorem dX4_choose_38 : decode cX4_choose 38 = .ok (.aload_n 0, 1) := by decide +kernel
theorem dX4_choose_39 : decode cX4_choose 39 = .ok (.getfield 24, 3) := by decide +kernel
theorem dX4_choose_42 : decode cX4_choose 42 = .ok (.iload_n 3, 1) := by decide +kernel
theorem dX4_choose_43 : decode cX4_choose 43 = .ok (.aload_n 0, 1) := by decide +kernel
theorem dX4_choose_44 : decode cX4_choose 44 = .ok (.iload_n 2, 1) := by decide +kernel
theorem dX4_choose_45 : decode cX4_choose 45 = .ok (.iload_n 3, 1) := by decide +kernel
theorem dX4_choose_46 : decode cX4_choose 46 = .ok (.invokevirtual 64, 3) := by decide +kernel
theorem dX4_choose_49 : decode cX4_choose 49 = .ok (.iastore, 1) := by decide +kernel
theorem dX4_choose_50 : decode cX4_choose 50 = .ok (.aload_n 0, 1) := by decide +kernel
theorem dX4_choose_51 : decode cX4_choose 51 = .ok (.dup, 1) := by decide +kernel
theorem dX4_choose_52 : decode cX4_choose 52 = .ok (.getfield 28, 3) := by decide +kernel
theorem dX4_choose_55 : decode cX4_choose 55 = .ok (.aload_n 0, 1) := by decide +kernel
theorem dX4_choose_56 : decode cX4_choose 56 = .ok (.iload_n 2, 1) := by decide +kernel
theorem dX4_choose_57 : decode cX4_choose 57 = .ok (.iload_n 3, 1) := by decide +kernel
theorem dX4_choose_58 : decode cX4_choose 58 = .ok (.aload_n 0, 1) := by decide +kernel
theorem dX4_choose_59 : decode cX4_choose 59 = .ok (.getfield 24, 3) := by decide +kernel
theorem dX4_choose_62 : decode cX4_choose 62 = .ok (.iload_n 3, 1) := by decide +kernel
theorem dX4_choose_63 : decode cX4_choose 63 = .ok (.iaload, 1) := by decide +kernel
theorem dX4_choose_64 : decode cX4_choose 64 = .ok (.invokevirtual 68, 3) := by decide +kernel
theorem dX4_choose_67 : decode cX4_choose 67 = .ok (.iadd, 1) := by decide +kernel
theorem dX4_choose_68 : decode cX4_choose 68 = .ok (.putfield 28, 3) := by decide +kernel
theorem dX4_choose_71 : decode cX4_choose 71 = .ok (.iload_n 3, 1) := by decide +kernel
theorem dX4_choose_72 : decode cX4_choose 72 = .ok (.istore_n 2, 1) := by decide +kernel
theorem dX4_choose_73 : decode cX4_choose 73 = .ok (.iinc 3 1, 3) := by decide +kernel
theorem dX4_choose_76 : decode cX4_choose 76 = .ok (.goto (-62), 3) := by decide +kernel
theorem dX4_choose_79 : decode cX4_choose 79 = .ok (.return_, 1) := by decide +kernel
theorem dX4_lookAhead_0 : decode cX4_lookAhead 0 = .ok (.iconst (-1), 1) := by decide +kernel
theorem dX4_lookAhead_1 : decode cX4_lookAhead 1 = .ok (.istore_n 2, 1) := by decide +kernel
theorem dX4_lookAhead_2 : decode cX4_lookAhead 2 = .ok (.iload_n 1, 1) := by decide +kernel
theorem dX4_lookAhead_3 : decode cX4_lookAhead 3 = .ok (.iconst 1, 1) := by decide +kernel
theorem dX4_lookAhead_4 : decode cX4_lookAhead 4 = .ok (.isub, 1) := by decide +kernel
theorem dX4_lookAhead_5 : decode cX4_lookAhead 5 = .ok (.istore_n 3, 1) := by decide +kernel
theorem dX4_lookAhead_6 : decode cX4_lookAhead 6 = .ok (.iload_n 3, 1) := by decide +kernel
theorem dX4_lookAhead_7 : decode cX4_lookAhead 7 = .ok (.ifCond .lt 80, 3) := by decide +kernel
theorem dX4_lookAhead_10 : decode cX4_lookAhead 10 = .ok (.aload_n 0, 1) := by decide +kernel
theorem dX4_lookAhead_11 : decode cX4_lookAhead 11 = .ok (.getfield 20, 3) := by decide +kernel
theorem dX4_lookAhead_14 : decode cX4_lookAhead 14 = .ok (.iload_n 3, 1) := by decide +kernel
theorem dX4_lookAhead_15 : decode cX4_lookAhead 15 = .ok (.aaload, 1) := by decide +kernel
theorem dX4_lookAhead_16 : decode cX4_lookAhead 16 = .ok (.getfield 61, 3) := by decide +kernel
theorem dX4_lookAhead_19 : decode cX4_lookAhead 19 = .ok (.ifCond .le 62, 3) := by decide +kernel
theorem dX4_lookAhead_22 : decode cX4_lookAhead 22 = .ok (.iconst 0, 1) := by decide +kernel
theorem dX4_lookAhead_23 : decode cX4_lookAhead 23 = .ok (.istore 4, 2) := by decide +kernel
theorem dX4_lookAhead_25 : decode cX4_lookAhead 25 = .ok (.iload 4, 2) := by decide +kernel
theorem dX4_lookAhead_27 : decode cX4_lookAhead 27 = .ok (.aload_n 0, 1) := by decide +kernel
theorem dX4_lookAhead_28 : decode cX4_lookAhead 28 = .ok (.getfield 20, 3) := by decide +kernel
theorem dX4_lookAhead_31 : decode cX4_lookAhead 31 = .ok (.iload_n 3, 1) := by decide +kernel
theorem dX4_lookAhead_32 : decode cX4_lookAhead 32 = .ok (.aaload, 1) := by decide +kernel
theorem dX4_lookAhead_33 : decode cX4_lookAhead 33 = .ok (.getfield 72, 3) := by decide +kernel
theorem dX4_lookAhead_36 : decode cX4_lookAhead 36 = .ok (.if_icmp .ge 43, 3) := by decide +kernel
theorem dX4_lookAhead_39 : decode cX4_lookAhead 39 = .ok (.aload_n 0, 1) := by decide +kernel
theorem dX4_lookAhead_40 : decode cX4_lookAhead 40 = .ok (.getfield 34, 3) := by decide +kernel
theorem dX4_lookAhead_43 : decode cX4_lookAhead 43 = .ok (.iload_n 3, 1) := by decide +kernel
theorem dX4_lookAhead_44 : decode cX4_lookAhead 44 = .ok (.aaload, 1) := by decide +kernel
theorem dX4_lookAhead_45 : decode cX4_lookAhead 45 = .ok (.iload 4, 2) := by decide +kernel
theorem dX4_lookAhead_47 : decode cX4_lookAhead 47 = .ok (.iload_n 2, 1) := by decide +kernel
theorem dX4_lookAhead_48 : decode cX4_lookAhead 48 = .ok (.iconst (-1), 1) := by decide +kernel
theorem dX4_lookAhead_49 : decode cX4_lookAhead 49 = .ok (.if_icmp .ne 7, 3) := by decide +kernel
theorem dX4_lookAhead_52 : decode cX4_lookAhead 52 = .ok (.iconst 0, 1) := by decide +kernel
theorem dX4_lookAhead_53 : decode cX4_lookAhead 53 = .ok (.goto 19, 3) := by decide +kernel
theorem dX4_lookAhead_56 : decode cX4_lookAhead 56 = .ok (.aload_n 0, 1) := by decide +kernel
theorem dX4_lookAhead_57 : decode cX4_lookAhead 57 = .ok (.aload_n 0, 1) := by decide +kernel
theorem dX4_lookAhead_58 : decode cX4_lookAhead 58 = .ok (.getfield 20, 3) := by decide +kernel
theorem dX4_lookAhead_61 : decode cX4_lookAhead 61 = .ok (.iload_n 3, 1) := by decide +kernel
theorem dX4_lookAhead_62 : decode cX4_lookAhead 62 = .ok (.aaload, 1) := by decide +kernel
theorem dX4_lookAhead_63 : decode cX4_lookAhead 63 = .ok (.iload 4, 2) := by decide +kernel
theorem dX4_lookAhead_65 : decode cX4_lookAhead 65 = .ok (.invokevirtual 75, 3) := by decide +kernel
theorem dX4_lookAhead_68 : decode cX4_lookAhead 68 = .ok (.iload_n 2, 1) := by decide +kernel
theorem dX4_lookAhead_69 : decode cX4_lookAhead 69 = .ok (.invokevirtual 79, 3) := by decide +kernel
theorem dX4_lookAhead_72 : decode cX4_lookAhead 72 = .ok (.iastore, 1) := by decide +kernel
theorem dX4_lookAhead_73 : decode cX4_lookAhead 73 = .ok (.iinc 4 1, 3) := by decide +kernel
theorem dX4_lookAhead_76 : decode cX4_lookAhead 76 = .ok (.goto (-51), 3) := by decide +kernel
theorem dX4_lookAhead_79 : decode cX4_lookAhead 79 = .ok (.iload_n 3, 1) := by decide +kernel
theorem dX4_lookAhead_80 : decode cX4_lookAhead 80 = .ok (.istore_n 2, 1) := by decide +kernel
theorem dX4_lookAhead_81 : decode cX4_lookAhead 81 = .ok (.iinc 3 (-1), 3) := by decide +kernel
theorem dX4_lookAhead_84 : decode cX4_lookAhead 84 = .ok (.goto (-78), 3) := by decide +kernel
theorem dX4_lookAhead_87 : decode cX4_lookAhead 87 = .ok (.return_, 1) := by decide +kernel
theorem dX4_fewestOnward_0 : decode cX4_fewestOnward 0 = .ok (.ldc 84, 2) := by decide +kernel
theorem dX4_fewestOnward_2 : decode cX4_fewestOnward 2 = .ok (.istore_n 3, 1) := by decide +kernel
theorem dX4_fewestOnward_3 : decode cX4_fewestOnward 3 = .ok (.iconst 0, 1) := by decide +kernel
theorem dX4_fewestOnward_4 : decode cX4_fewestOnward 4 = .ok (.istore 4, 2) := by decide +kernel
theorem dX4_fewestOnward_6 : decode cX4_fewestOnward 6 = .ok (.iload 4, 2) := by decide +kernel
theorem dX4_fewestOnward_8 : decode cX4_fewestOnward 8 = .ok (.aload_n 0, 1) := by decide +kernel
theorem dX4_fewestOnward_9 : decode cX4_fewestOnward 9 = .ok (.getfield 20, 3) := by decide +kernel
theorem dX4_fewestOnward_12 : decode cX4_fewestOnward 12 = .ok (.iload_n 2, 1) := by decide +kernel
theorem dX4_fewestOnward_13 : decode cX4_fewestOnward 13 = .ok (.aaload, 1) := by decide +kernel
theorem dX4_fewestOnward_14 : decode cX4_fewestOnward 14 = .ok (.getfield 72, 3) := by decide +kernel
theorem dX4_fewestOnward_17 : decode cX4_fewestOnward 17 = .ok (.if_icmp .ge 44, 3) := by decide +kernel
theorem dX4_fewestOnward_20 : decode cX4_fewestOnward 20 = .ok (.iload_n 1, 1) := by decide +kernel
theorem dX4_fewestOnward_21 : decode cX4_fewestOnward 21 = .ok (.aload_n 0, 1) := by decide +kernel
theorem dX4_fewestOnward_22 : decode cX4_fewestOnward 22 = .ok (.getfield 20, 3) := by decide +kernel
theorem dX4_fewestOnward_25 : decode cX4_fewestOnward 25 = .ok (.iload_n 2, 1) := by decide +kernel
theorem dX4_fewestOnward_26 : decode cX4_fewestOnward 26 = .ok (.aaload, 1) := by decide +kernel
theorem dX4_fewestOnward_27 : decode cX4_fewestOnward 27 = .ok (.iload 4, 2) := by decide +kernel
theorem dX4_fewestOnward_29 : decode cX4_fewestOnward 29 = .ok (.invokevirtual 75, 3) := by decide +kernel
theorem dX4_fewestOnward_32 : decode cX4_fewestOnward 32 = .ok (.isub, 1) := by decide +kernel
theorem dX4_fewestOnward_33 : decode cX4_fewestOnward 33 = .ok (.invokestatic 85, 3) := by decide +kernel
theorem dX4_fewestOnward_36 : decode cX4_fewestOnward 36 = .ok (.istore 5, 2) := by decide +kernel
theorem dX4_fewestOnward_38 : decode cX4_fewestOnward 38 = .ok (.iload_n 3, 1) := by decide +kernel
theorem dX4_fewestOnward_39 : decode cX4_fewestOnward 39 = .ok (.iload 5, 2) := by decide +kernel
theorem dX4_fewestOnward_41 : decode cX4_fewestOnward 41 = .ok (.aload_n 0, 1) := by decide +kernel
theorem dX4_fewestOnward_42 : decode cX4_fewestOnward 42 = .ok (.getfield 34, 3) := by decide +kernel
theorem dX4_fewestOnward_45 : decode cX4_fewestOnward 45 = .ok (.iload_n 2, 1) := by decide +kernel
theorem dX4_fewestOnward_46 : decode cX4_fewestOnward 46 = .ok (.aaload, 1) := by decide +kernel
theorem dX4_fewestOnward_47 : decode cX4_fewestOnward 47 = .ok (.iload 4, 2) := by decide +kernel
theorem dX4_fewestOnward_49 : decode cX4_fewestOnward 49 = .ok (.iaload, 1) := by decide +kernel
theorem dX4_fewestOnward_50 : decode cX4_fewestOnward 50 = .ok (.iadd, 1) := by decide +kernel
theorem dX4_fewestOnward_51 : decode cX4_fewestOnward 51 = .ok (.invokestatic 90, 3) := by decide +kernel
theorem dX4_fewestOnward_54 : decode cX4_fewestOnward 54 = .ok (.istore_n 3, 1) := by decide +kernel
theorem dX4_fewestOnward_55 : decode cX4_fewestOnward 55 = .ok (.iinc 4 1, 3) := by decide +kernel
theorem dX4_fewestOnward_58 : decode cX4_fewestOnward 58 = .ok (.goto (-52), 3) := by decide +kernel
theorem dX4_fewestOnward_61 : decode cX4_fewestOnward 61 = .ok (.iload_n 3, 1) := by decide +kernel
theorem dX4_fewestOnward_62 : decode cX4_fewestOnward 62 = .ok (.ireturn, 1) := by decide +kernel
theorem dX4_firstBest_0 : decode cX4_firstBest 0 = .ok (.iconst 0, 1) := by decide +kernel
theorem dX4_firstBest_1 : decode cX4_firstBest 1 = .ok (.istore_n 3, 1) := by decide +kernel
theorem dX4_firstBest_2 : decode cX4_firstBest 2 = .ok (.ldc 84, 2) := by decide +kernel
theorem dX4_firstBest_4 : decode cX4_firstBest 4 = .ok (.istore 4, 2) := by decide +kernel
theorem dX4_firstBest_6 : decode cX4_firstBest 6 = .ok (.iconst 0, 1) := by decide +kernel
theorem dX4_firstBest_7 : decode cX4_firstBest 7 = .ok (.istore 5, 2) := by decide +kernel
theorem dX4_firstBest_9 : decode cX4_firstBest 9 = .ok (.iload 5, 2) := by decide +kernel
theorem dX4_firstBest_11 : decode cX4_firstBest 11 = .ok (.aload_n 0, 1) := by decide +kernel
theorem dX4_firstBest_12 : decode cX4_firstBest 12 = .ok (.getfield 20, 3) := by decide +kernel
theorem dX4_firstBest_15 : decode cX4_firstBest 15 = .ok (.iload_n 2, 1) := by decide +kernel
theorem dX4_firstBest_16 : decode cX4_firstBest 16 = .ok (.aaload, 1) := by decide +kernel
theorem dX4_firstBest_17 : decode cX4_firstBest 17 = .ok (.getfield 72, 3) := by decide +kernel
theorem dX4_firstBest_20 : decode cX4_firstBest 20 = .ok (.if_icmp .ge 43, 3) := by decide +kernel
theorem dX4_firstBest_23 : decode cX4_firstBest 23 = .ok (.aload_n 0, 1) := by decide +kernel
theorem dX4_firstBest_24 : decode cX4_firstBest 24 = .ok (.iload_n 1, 1) := by decide +kernel
theorem dX4_firstBest_25 : decode cX4_firstBest 25 = .ok (.iload_n 2, 1) := by decide +kernel
theorem dX4_firstBest_26 : decode cX4_firstBest 26 = .ok (.iload 5, 2) := by decide +kernel
theorem dX4_firstBest_28 : decode cX4_firstBest 28 = .ok (.invokevirtual 68, 3) := by decide +kernel
theorem dX4_firstBest_31 : decode cX4_firstBest 31 = .ok (.aload_n 0, 1) := by decide +kernel
theorem dX4_firstBest_32 : decode cX4_firstBest 32 = .ok (.getfield 34, 3) := by decide +kernel
theorem dX4_firstBest_35 : decode cX4_firstBest 35 = .ok (.iload_n 2, 1) := by decide +kernel
theorem dX4_firstBest_36 : decode cX4_firstBest 36 = .ok (.aaload, 1) := by decide +kernel
theorem dX4_firstBest_37 : decode cX4_firstBest 37 = .ok (.iload 5, 2) := by decide +kernel
theorem dX4_firstBest_39 : decode cX4_firstBest 39 = .ok (.iaload, 1) := by decide +kernel
theorem dX4_firstBest_40 : decode cX4_firstBest 40 = .ok (.iadd, 1) := by decide +kernel
theorem dX4_firstBest_41 : decode cX4_firstBest 41 = .ok (.istore 6, 2) := by decide +kernel
theorem dX4_firstBest_43 : decode cX4_firstBest 43 = .ok (.iload 6, 2) := by decide +kernel
theorem dX4_firstBest_45 : decode cX4_firstBest 45 = .ok (.iload 4, 2) := by decide +kernel
theorem dX4_firstBest_47 : decode cX4_firstBest 47 = .ok (.if_icmp .ge 10, 3) := by decide +kernel
theorem dX4_firstBest_50 : decode cX4_firstBest 50 = .ok (.iload 6, 2) := by decide +kernel
theorem dX4_firstBest_52 : decode cX4_firstBest 52 = .ok (.istore 4, 2) := by decide +kernel
theorem dX4_firstBest_54 : decode cX4_firstBest 54 = .ok (.iload 5, 2) := by decide +kernel
theorem dX4_firstBest_56 : decode cX4_firstBest 56 = .ok (.istore_n 3, 1) := by decide +kernel
theorem dX4_firstBest_57 : decode cX4_firstBest 57 = .ok (.iinc 5 1, 3) := by decide +kernel
theorem dX4_firstBest_60 : decode cX4_firstBest 60 = .ok (.goto (-51), 3) := by decide +kernel
theorem dX4_firstBest_63 : decode cX4_firstBest 63 = .ok (.iload_n 3, 1) := by decide +kernel
theorem dX4_firstBest_64 : decode cX4_firstBest 64 = .ok (.ireturn, 1) := by decide +kernel
theorem dX4_jumpFromChosen_0 : decode cX4_jumpFromChosen 0 = .ok (.iload_n 1, 1) := by decide +kernel
theorem dX4_jumpFromChosen_1 : decode cX4_jumpFromChosen 1 = .ok (.iconst (-1), 1) := by decide +kernel
theorem dX4_jumpFromChosen_2 : decode cX4_jumpFromChosen 2 = .ok (.if_icmp .ne 5, 3) := by decide +kernel
theorem dX4_jumpFromChosen_5 : decode cX4_jumpFromChosen 5 = .ok (.iconst 0, 1) := by decide +kernel
theorem dX4_jumpFromChosen_6 : decode cX4_jumpFromChosen 6 = .ok (.ireturn, 1) := by decide +kernel
theorem dX4_jumpFromChosen_7 : decode cX4_jumpFromChosen 7 = .ok (.aload_n 0, 1) := by decide +kernel
theorem dX4_jumpFromChosen_8 : decode cX4_jumpFromChosen 8 = .ok (.getfield 20, 3) := by decide +kernel
theorem dX4_jumpFromChosen_11 : decode cX4_jumpFromChosen 11 = .ok (.iload_n 1, 1) := by decide +kernel
theorem dX4_jumpFromChosen_12 : decode cX4_jumpFromChosen 12 = .ok (.aaload, 1) := by decide +kernel
theorem dX4_jumpFromChosen_13 : decode cX4_jumpFromChosen 13 = .ok (.aload_n 0, 1) := by decide +kernel
theorem dX4_jumpFromChosen_14 : decode cX4_jumpFromChosen 14 = .ok (.getfield 24, 3) := by decide +kernel
theorem dX4_jumpFromChosen_17 : decode cX4_jumpFromChosen 17 = .ok (.iload_n 1, 1) := by decide +kernel
theorem dX4_jumpFromChosen_18 : decode cX4_jumpFromChosen 18 = .ok (.iaload, 1) := by decide +kernel
theorem dX4_jumpFromChosen_19 : decode cX4_jumpFromChosen 19 = .ok (.invokevirtual 75, 3) := by decide +kernel
theorem dX4_jumpFromChosen_22 : decode cX4_jumpFromChosen 22 = .ok (.aload_n 0, 1) := by decide +kernel
theorem dX4_jumpFromChosen_23 : decode cX4_jumpFromChosen 23 = .ok (.getfield 20, 3) := by decide +kernel
theorem dX4_jumpFromChosen_26 : decode cX4_jumpFromChosen 26 = .ok (.iload_n 2, 1) := by decide +kernel
theorem dX4_jumpFromChosen_27 : decode cX4_jumpFromChosen 27 = .ok (.aaload, 1) := by decide +kernel
theorem dX4_jumpFromChosen_28 : decode cX4_jumpFromChosen 28 = .ok (.iload_n 3, 1) := by decide +kernel
theorem dX4_jumpFromChosen_29 : decode cX4_jumpFromChosen 29 = .ok (.invokevirtual 75, 3) := by decide +kernel
theorem dX4_jumpFromChosen_32 : decode cX4_jumpFromChosen 32 = .ok (.isub, 1) := by decide +kernel
theorem dX4_jumpFromChosen_33 : decode cX4_jumpFromChosen 33 = .ok (.invokestatic 85, 3) := by decide +kernel
theorem dX4_jumpFromChosen_36 : decode cX4_jumpFromChosen 36 = .ok (.ireturn, 1) := by decide +kernel
theorem dX4_notesOf_0 : decode cX4_notesOf 0 = .ok (.iconst 0, 1) := by decide +kernel
theorem dX4_notesOf_1 : decode cX4_notesOf 1 = .ok (.istore_n 2, 1) := by decide +kernel
theorem dX4_notesOf_2 : decode cX4_notesOf 2 = .ok (.iconst 0, 1) := by decide +kernel
theorem dX4_notesOf_3 : decode cX4_notesOf 3 = .ok (.istore_n 3, 1) := by decide +kernel
theorem dX4_notesOf_4 : decode cX4_notesOf 4 = .ok (.iload_n 3, 1) := by decide +kernel
theorem dX4_notesOf_5 : decode cX4_notesOf 5 = .ok (.aload_n 0, 1) := by decide +kernel
theorem dX4_notesOf_6 : decode cX4_notesOf 6 = .ok (.getfield 20, 3) := by decide +kernel
theorem dX4_notesOf_9 : decode cX4_notesOf 9 = .ok (.iload_n 1, 1) := by decide +kernel
theorem dX4_notesOf_10 : decode cX4_notesOf 10 = .ok (.aaload, 1) := by decide +kernel
theorem dX4_notesOf_11 : decode cX4_notesOf 11 = .ok (.getfield 61, 3) := by decide +kernel
theorem dX4_notesOf_14 : decode cX4_notesOf 14 = .ok (.if_icmp .ge 36, 3) := by decide +kernel
theorem dX4_notesOf_17 : decode cX4_notesOf 17 = .ok (.iload_n 2, 1) := by decide +kernel
theorem dX4_notesOf_18 : decode cX4_notesOf 18 = .ok (.aload_n 0, 1) := by decide +kernel
theorem dX4_notesOf_19 : decode cX4_notesOf 19 = .ok (.getfield 12, 3) := by decide +kernel
theorem dX4_notesOf_22 : decode cX4_notesOf 22 = .ok (.getfield 93, 3) := by decide +kernel
theorem dX4_notesOf_25 : decode cX4_notesOf 25 = .ok (.aload_n 0, 1) := by decide +kernel
theorem dX4_notesOf_26 : decode cX4_notesOf 26 = .ok (.getfield 20, 3) := by decide +kernel
theorem dX4_notesOf_29 : decode cX4_notesOf 29 = .ok (.iload_n 1, 1) := by decide +kernel
theorem dX4_notesOf_30 : decode cX4_notesOf 30 = .ok (.aaload, 1) := by decide +kernel
theorem dX4_notesOf_31 : decode cX4_notesOf 31 = .ok (.aload_n 0, 1) := by decide +kernel
theorem dX4_notesOf_32 : decode cX4_notesOf 32 = .ok (.getfield 24, 3) := by decide +kernel
theorem dX4_notesOf_35 : decode cX4_notesOf 35 = .ok (.iload_n 1, 1) := by decide +kernel
theorem dX4_notesOf_36 : decode cX4_notesOf 36 = .ok (.iaload, 1) := by decide +kernel
theorem dX4_notesOf_37 : decode cX4_notesOf 37 = .ok (.iload_n 3, 1) := by decide +kernel
theorem dX4_notesOf_38 : decode cX4_notesOf 38 = .ok (.invokevirtual 96, 3) := by decide +kernel
theorem dX4_notesOf_41 : decode cX4_notesOf 41 = .ok (.iaload, 1) := by decide +kernel
theorem dX4_notesOf_42 : decode cX4_notesOf 42 = .ok (.ior, 1) := by decide +kernel
theorem dX4_notesOf_43 : decode cX4_notesOf 43 = .ok (.istore_n 2, 1) := by decide +kernel
theorem dX4_notesOf_44 : decode cX4_notesOf 44 = .ok (.iinc 3 1, 3) := by decide +kernel
theorem dX4_notesOf_47 : decode cX4_notesOf 47 = .ok (.goto (-43), 3) := by decide +kernel
theorem dX4_notesOf_50 : decode cX4_notesOf 50 = .ok (.iload_n 2, 1) := by decide +kernel
theorem dX4_notesOf_51 : decode cX4_notesOf 51 = .ok (.ireturn, 1) := by decide +kernel
theorem dX4_hasSameButtons_0 : decode cX4_hasSameButtons 0 = .ok (.aload_n 0, 1) := by decide +kernel
theorem dX4_hasSameButtons_1 : decode cX4_hasSameButtons 1 = .ok (.getfield 20, 3) := by decide +kernel
theorem dX4_hasSameButtons_4 : decode cX4_hasSameButtons 4 = .ok (.iload_n 2, 1) := by decide +kernel
theorem dX4_hasSameButtons_5 : decode cX4_hasSameButtons 5 = .ok (.aaload, 1) := by decide +kernel
theorem dX4_hasSameButtons_6 : decode cX4_hasSameButtons 6 = .ok (.getfield 61, 3) := by decide +kernel
theorem dX4_hasSameButtons_9 : decode cX4_hasSameButtons 9 = .ok (.aload_n 1, 1) := by decide +kernel
theorem dX4_hasSameButtons_10 : decode cX4_hasSameButtons 10 = .ok (.getfield 20, 3) := by decide +kernel
theorem dX4_hasSameButtons_13 : decode cX4_hasSameButtons 13 = .ok (.iload_n 2, 1) := by decide +kernel
theorem dX4_hasSameButtons_14 : decode cX4_hasSameButtons 14 = .ok (.aaload, 1) := by decide +kernel
theorem dX4_hasSameButtons_15 : decode cX4_hasSameButtons 15 = .ok (.getfield 61, 3) := by decide +kernel
theorem dX4_hasSameButtons_18 : decode cX4_hasSameButtons 18 = .ok (.if_icmp .ne 42, 3) := by decide +kernel
theorem dX4_hasSameButtons_21 : decode cX4_hasSameButtons 21 = .ok (.aload_n 0, 1) := by decide +kernel
theorem dX4_hasSameButtons_22 : decode cX4_hasSameButtons 22 = .ok (.getfield 20, 3) := by decide +kernel
theorem dX4_hasSameButtons_25 : decode cX4_hasSameButtons 25 = .ok (.iload_n 2, 1) := by decide +kernel
theorem dX4_hasSameButtons_26 : decode cX4_hasSameButtons 26 = .ok (.aaload, 1) := by decide +kernel
theorem dX4_hasSameButtons_27 : decode cX4_hasSameButtons 27 = .ok (.getfield 99, 3) := by decide +kernel
theorem dX4_hasSameButtons_30 : decode cX4_hasSameButtons 30 = .ok (.aload_n 0, 1) := by decide +kernel
theorem dX4_hasSameButtons_31 : decode cX4_hasSameButtons 31 = .ok (.getfield 24, 3) := by decide +kernel
theorem dX4_hasSameButtons_34 : decode cX4_hasSameButtons 34 = .ok (.iload_n 2, 1) := by decide +kernel
theorem dX4_hasSameButtons_35 : decode cX4_hasSameButtons 35 = .ok (.iaload, 1) := by decide +kernel
theorem dX4_hasSameButtons_36 : decode cX4_hasSameButtons 36 = .ok (.iaload, 1) := by decide +kernel
theorem dX4_hasSameButtons_37 : decode cX4_hasSameButtons 37 = .ok (.aload_n 1, 1) := by decide +kernel
theorem dX4_hasSameButtons_38 : decode cX4_hasSameButtons 38 = .ok (.getfield 20, 3) := by decide +kernel
theorem dX4_hasSameButtons_41 : decode cX4_hasSameButtons 41 = .ok (.iload_n 2, 1) := by decide +kernel
theorem dX4_hasSameButtons_42 : decode cX4_hasSameButtons 42 = .ok (.aaload, 1) := by decide +kernel
theorem dX4_hasSameButtons_43 : decode cX4_hasSameButtons 43 = .ok (.getfield 99, 3) := by decide +kernel
theorem dX4_hasSameButtons_46 : decode cX4_hasSameButtons 46 = .ok (.aload_n 1, 1) := by decide +kernel
theorem dX4_hasSameButtons_47 : decode cX4_hasSameButtons 47 = .ok (.getfield 24, 3) := by decide +kernel
theorem dX4_hasSameButtons_50 : decode cX4_hasSameButtons 50 = .ok (.iload_n 2, 1) := by decide +kernel
theorem dX4_hasSameButtons_51 : decode cX4_hasSameButtons 51 = .ok (.iaload, 1) := by decide +kernel
theorem dX4_hasSameButtons_52 : decode cX4_hasSameButtons 52 = .ok (.iaload, 1) := by decide +kernel
theorem dX4_hasSameButtons_53 : decode cX4_hasSameButtons 53 = .ok (.if_icmp .ne 7, 3) := by decide +kernel
theorem dX4_hasSameButtons_56 : decode cX4_hasSameButtons 56 = .ok (.iconst 1, 1) := by decide +kernel
theorem dX4_hasSameButtons_57 : decode cX4_hasSameButtons 57 = .ok (.goto 4, 3) := by decide +kernel
theorem dX4_hasSameButtons_60 : decode cX4_hasSameButtons 60 = .ok (.iconst 0, 1) := by decide +kernel
theorem dX4_hasSameButtons_61 : decode cX4_hasSameButtons 61 = .ok (.ireturn, 1) := by decide +kernel
theorem dX4_lackOfAll_0 : decode cX4_lackOfAll 0 = .ok (.iconst 0, 1) := by decide +kernel
theorem dX4_lackOfAll_1 : decode cX4_lackOfAll 1 = .ok (.istore_n 2, 1) := by decide +kernel
theorem dX4_lackOfAll_2 : decode cX4_lackOfAll 2 = .ok (.iconst 0, 1) := by decide +kernel
theorem dX4_lackOfAll_3 : decode cX4_lackOfAll 3 = .ok (.istore_n 3, 1) := by decide +kernel
theorem dX4_lackOfAll_4 : decode cX4_lackOfAll 4 = .ok (.iload_n 3, 1) := by decide +kernel
theorem dX4_lackOfAll_5 : decode cX4_lackOfAll 5 = .ok (.iload_n 1, 1) := by decide +kernel
theorem dX4_lackOfAll_6 : decode cX4_lackOfAll 6 = .ok (.if_icmp .ge 21, 3) := by decide +kernel
theorem dX4_lackOfAll_9 : decode cX4_lackOfAll 9 = .ok (.iload_n 2, 1) := by decide +kernel
theorem dX4_lackOfAll_10 : decode cX4_lackOfAll 10 = .ok (.aload_n 0, 1) := by decide +kernel
theorem dX4_lackOfAll_11 : decode cX4_lackOfAll 11 = .ok (.getfield 20, 3) := by decide +kernel
theorem dX4_lackOfAll_14 : decode cX4_lackOfAll 14 = .ok (.iload_n 3, 1) := by decide +kernel
theorem dX4_lackOfAll_15 : decode cX4_lackOfAll 15 = .ok (.aaload, 1) := by decide +kernel
theorem dX4_lackOfAll_16 : decode cX4_lackOfAll 16 = .ok (.getfield 102, 3) := by decide +kernel
theorem dX4_lackOfAll_19 : decode cX4_lackOfAll 19 = .ok (.iadd, 1) := by decide +kernel
theorem dX4_lackOfAll_20 : decode cX4_lackOfAll 20 = .ok (.istore_n 2, 1) := by decide +kernel
theorem dX4_lackOfAll_21 : decode cX4_lackOfAll 21 = .ok (.iinc 3 1, 3) := by decide +kernel
theorem dX4_lackOfAll_24 : decode cX4_lackOfAll 24 = .ok (.goto (-20), 3) := by decide +kernel
theorem dX4_lackOfAll_27 : decode cX4_lackOfAll 27 = .ok (.iload_n 2, 1) := by decide +kernel
theorem dX4_lackOfAll_28 : decode cX4_lackOfAll 28 = .ok (.ireturn, 1) := by decide +kernel
theorem dX4_extraOfAll_0 : decode cX4_extraOfAll 0 = .ok (.iconst 0, 1) := by decide +kernel
theorem dX4_extraOfAll_1 : decode cX4_extraOfAll 1 = .ok (.istore_n 2, 1) := by decide +kernel
theorem dX4_extraOfAll_2 : decode cX4_extraOfAll 2 = .ok (.iconst 0, 1) := by decide +kernel
theorem dX4_extraOfAll_3 : decode cX4_extraOfAll 3 = .ok (.istore_n 3, 1) := by decide +kernel
theorem dX4_extraOfAll_4 : decode cX4_extraOfAll 4 = .ok (.iload_n 3, 1) := by decide +kernel
theorem dX4_extraOfAll_5 : decode cX4_extraOfAll 5 = .ok (.iload_n 1, 1) := by decide +kernel
theorem dX4_extraOfAll_6 : decode cX4_extraOfAll 6 = .ok (.if_icmp .ge 21, 3) := by decide +kernel
theorem dX4_extraOfAll_9 : decode cX4_extraOfAll 9 = .ok (.iload_n 2, 1) := by decide +kernel
theorem dX4_extraOfAll_10 : decode cX4_extraOfAll 10 = .ok (.aload_n 0, 1) := by decide +kernel
theorem dX4_extraOfAll_11 : decode cX4_extraOfAll 11 = .ok (.getfield 20, 3) := by decide +kernel
theorem dX4_extraOfAll_14 : decode cX4_extraOfAll 14 = .ok (.iload_n 3, 1) := by decide +kernel
theorem dX4_extraOfAll_15 : decode cX4_extraOfAll 15 = .ok (.aaload, 1) := by decide +kernel
theorem dX4_extraOfAll_16 : decode cX4_extraOfAll 16 = .ok (.getfield 105, 3) := by decide +kernel
theorem dX4_extraOfAll_19 : decode cX4_extraOfAll 19 = .ok (.iadd, 1) := by decide +kernel
theorem dX4_extraOfAll_20 : decode cX4_extraOfAll 20 = .ok (.istore_n 2, 1) := by decide +kernel
theorem dX4_extraOfAll_21 : decode cX4_extraOfAll 21 = .ok (.iinc 3 1, 3) := by decide +kernel
theorem dX4_extraOfAll_24 : decode cX4_extraOfAll 24 = .ok (.goto (-20), 3) := by decide +kernel
theorem dX4_extraOfAll_27 : decode cX4_extraOfAll 27 = .ok (.iload_n 2, 1) := by decide +kernel
theorem dX4_extraOfAll_28 : decode cX4_extraOfAll 28 = .ok (.ireturn, 1) := by decide +kernel
theorem dX4_buttonsOfAll_0 : decode cX4_buttonsOfAll 0 = .ok (.iconst 0, 1) := by decide +kernel
theorem dX4_buttonsOfAll_1 : decode cX4_buttonsOfAll 1 = .ok (.istore_n 2, 1) := by decide +kernel
theorem dX4_buttonsOfAll_2 : decode cX4_buttonsOfAll 2 = .ok (.iconst 0, 1) := by decide +kernel
theorem dX4_buttonsOfAll_3 : decode cX4_buttonsOfAll 3 = .ok (.istore_n 3, 1) := by decide +kernel
theorem dX4_buttonsOfAll_4 : decode cX4_buttonsOfAll 4 = .ok (.iload_n 3, 1) := by decide +kernel
theorem dX4_buttonsOfAll_5 : decode cX4_buttonsOfAll 5 = .ok (.iload_n 1, 1) := by decide +kernel
theorem dX4_buttonsOfAll_6 : decode cX4_buttonsOfAll 6 = .ok (.if_icmp .ge 21, 3) := by decide +kernel
theorem dX4_buttonsOfAll_9 : decode cX4_buttonsOfAll 9 = .ok (.iload_n 2, 1) := by decide +kernel
theorem dX4_buttonsOfAll_10 : decode cX4_buttonsOfAll 10 = .ok (.aload_n 0, 1) := by decide +kernel
theorem dX4_buttonsOfAll_11 : decode cX4_buttonsOfAll 11 = .ok (.getfield 20, 3) := by decide +kernel
theorem dX4_buttonsOfAll_14 : decode cX4_buttonsOfAll 14 = .ok (.iload_n 3, 1) := by decide +kernel
theorem dX4_buttonsOfAll_15 : decode cX4_buttonsOfAll 15 = .ok (.aaload, 1) := by decide +kernel
theorem dX4_buttonsOfAll_16 : decode cX4_buttonsOfAll 16 = .ok (.getfield 61, 3) := by decide +kernel
theorem dX4_buttonsOfAll_19 : decode cX4_buttonsOfAll 19 = .ok (.iadd, 1) := by decide +kernel
theorem dX4_buttonsOfAll_20 : decode cX4_buttonsOfAll 20 = .ok (.istore_n 2, 1) := by decide +kernel
theorem dX4_buttonsOfAll_21 : decode cX4_buttonsOfAll 21 = .ok (.iinc 3 1, 3) := by decide +kernel
theorem dX4_buttonsOfAll_24 : decode cX4_buttonsOfAll 24 = .ok (.goto (-20), 3) := by decide +kernel
theorem dX4_buttonsOfAll_27 : decode cX4_buttonsOfAll 27 = .ok (.iload_n 2, 1) := by decide +kernel
theorem dX4_buttonsOfAll_28 : decode cX4_buttonsOfAll 28 = .ok (.ireturn, 1) := by decide +kernel
theorem dX5_init_0 : decode cX5_init 0 = .ok (.aload_n 0, 1) := by decide +kernel
theorem dX5_init_1 : decode cX5_init 1 = .ok (.invokespecial 1, 3) := by decide +kernel
theorem dX5_init_4 : decode cX5_init 4 = .ok (.aload_n 0, 1) := by decide +kernel
theorem dX5_init_5 : decode cX5_init 5 = .ok (.new 7, 3) := by decide +kernel
theorem dX5_init_8 : decode cX5_init 8 = .ok (.dup, 1) := by decide +kernel
theorem dX5_init_9 : decode cX5_init 9 = .ok (.invokespecial 9, 3) := by decide +kernel
theorem dX5_init_12 : decode cX5_init 12 = .ok (.putfield 10, 3) := by decide +kernel
theorem dX5_init_15 : decode cX5_init 15 = .ok (.aload_n 0, 1) := by decide +kernel
theorem dX5_init_16 : decode cX5_init 16 = .ok (.new 7, 3) := by decide +kernel
theorem dX5_init_19 : decode cX5_init 19 = .ok (.dup, 1) := by decide +kernel
theorem dX5_init_20 : decode cX5_init 20 = .ok (.invokespecial 9, 3) := by decide +kernel
theorem dX5_init_23 : decode cX5_init 23 = .ok (.putfield 16, 3) := by decide +kernel
theorem dX5_init_26 : decode cX5_init 26 = .ok (.aload_n 0, 1) := by decide +kernel
theorem dX5_init_27 : decode cX5_init 27 = .ok (.iconst 0, 1) := by decide +kernel
theorem dX5_init_28 : decode cX5_init 28 = .ok (.putfield 19, 3) := by decide +kernel
theorem dX5_init_31 : decode cX5_init 31 = .ok (.aload_n 0, 1) := by decide +kernel
theorem dX5_init_32 : decode cX5_init 32 = .ok (.new 23, 3) := by decide +kernel
theorem dX5_init_35 : decode cX5_init 35 = .ok (.dup, 1) := by decide +kernel
theorem dX5_init_36 : decode cX5_init 36 = .ok (.invokespecial 25, 3) := by decide +kernel
theorem dX5_init_39 : decode cX5_init 39 = .ok (.putfield 26, 3) := by decide +kernel
theorem dX5_init_42 : decode cX5_init 42 = .ok (.aload_n 0, 1) := by decide +kernel
theorem dX5_init_43 : decode cX5_init 43 = .ok (.new 23, 3) := by decide +kernel
theorem dX5_init_46 : decode cX5_init 46 = .ok (.dup, 1) := by decide +kernel
theorem dX5_init_47 : decode cX5_init 47 = .ok (.invokespecial 25, 3) := by decide +kernel
theorem dX5_init_50 : decode cX5_init 50 = .ok (.putfield 30, 3) := by decide +kernel
theorem dX5_init_53 : decode cX5_init 53 = .ok (.aload_n 0, 1) := by decide +kernel
theorem dX5_init_54 : decode cX5_init 54 = .ok (.new 33, 3) := by decide +kernel
theorem dX5_init_57 : decode cX5_init 57 = .ok (.dup, 1) := by decide +kernel
theorem dX5_init_58 : decode cX5_init 58 = .ok (.invokespecial 35, 3) := by decide +kernel
theorem dX5_init_61 : decode cX5_init 61 = .ok (.putfield 36, 3) := by decide +kernel
theorem dX5_init_64 : decode cX5_init 64 = .ok (.aload_n 0, 1) := by decide +kernel
theorem dX5_init_65 : decode cX5_init 65 = .ok (.getfield 26, 3) := by decide +kernel
theorem dX5_init_68 : decode cX5_init 68 = .ok (.aload_n 0, 1) := by decide +kernel
theorem dX5_init_69 : decode cX5_init 69 = .ok (.getfield 10, 3) := by decide +kernel
theorem dX5_init_72 : decode cX5_init 72 = .ok (.getfield 40, 3) := by decide +kernel
theorem dX5_init_75 : decode cX5_init 75 = .ok (.aload_n 0, 1) := by decide +kernel
theorem dX5_init_76 : decode cX5_init 76 = .ok (.getfield 10, 3) := by decide +kernel
theorem dX5_init_79 : decode cX5_init 79 = .ok (.getfield 44, 3) := by decide +kernel
theorem dX5_init_82 : decode cX5_init 82 = .ok (.aload_n 0, 1) := by decide +kernel
theorem dX5_init_83 : decode cX5_init 83 = .ok (.getfield 10, 3) := by decide +kernel
theorem dX5_init_86 : decode cX5_init 86 = .ok (.invokevirtual 47, 3) := by decide +kernel
theorem dX5_init_89 : decode cX5_init 89 = .ok (.aload_n 0, 1) := by decide +kernel
theorem dX5_init_90 : decode cX5_init 90 = .ok (.invokevirtual 51, 3) := by decide +kernel
theorem dX5_init_93 : decode cX5_init 93 = .ok (.return_, 1) := by decide +kernel
theorem dX5_system_0 : decode cX5_system 0 = .ok (.iload_n 1, 1) := by decide +kernel
theorem dX5_system_1 : decode cX5_system 1 = .ok (.iload_n 2, 1) := by decide +kernel
theorem dX5_system_2 : decode cX5_system 2 = .ok (.invokestatic 54, 3) := by decide +kernel
theorem dX5_system_5 : decode cX5_system 5 = .ok (.ifCond .ne 5, 3) := by decide +kernel
theorem dX5_system_8 : decode cX5_system 8 = .ok (.iconst (-1), 1) := by decide +kernel
theorem dX5_system_9 : decode cX5_system 9 = .ok (.ireturn, 1) := by decide +kernel
theorem dX5_system_10 : decode cX5_system 10 = .ok (.aload_n 0, 1) := by decide +kernel
theorem dX5_system_11 : decode cX5_system 11 = .ok (.getfield 10, 3) := by decide +kernel
theorem dX5_system_14 : decode cX5_system 14 = .ok (.iload_n 1, 1) := by decide +kernel
theorem dX5_system_15 : decode cX5_system 15 = .ok (.putfield 40, 3) := by decide +kernel
theorem dX5_system_18 : decode cX5_system 18 = .ok (.aload_n 0, 1) := by decide +kernel
theorem dX5_system_19 : decode cX5_system 19 = .ok (.getfield 10, 3) := by decide +kernel
theorem dX5_system_22 : decode cX5_system 22 = .ok (.iload_n 2, 1) := by decide +kernel
theorem dX5_system_23 : decode cX5_system 23 = .ok (.putfield 44, 3) := by decide +kernel
theorem dX5_system_26 : decode cX5_system 26 = .ok (.aload_n 0, 1) := by decide +kernel
theorem dX5_system_27 : decode cX5_system 27 = .ok (.getfield 26, 3) := by decide +kernel
theorem dX5_system_30 : decode cX5_system 30 = .ok (.iload_n 1, 1) := by decide +kernel
theorem dX5_system_31 : decode cX5_system 31 = .ok (.iload_n 2, 1) := by decide +kernel
theorem dX5_system_32 : decode cX5_system 32 = .ok (.aload_n 0, 1) := by decide +kernel
theorem dX5_system_33 : decode cX5_system 33 = .ok (.getfield 10, 3) := by decide +kernel
theorem dX5_system_36 : decode cX5_system 36 = .ok (.invokevirtual 47, 3) := by decide +kernel
theorem dX5_system_39 : decode cX5_system 39 = .ok (.aload_n 0, 1) := by decide +kernel
theorem dX5_system_40 : decode cX5_system 40 = .ok (.invokevirtual 51, 3) := by decide +kernel
theorem dX5_system_43 : decode cX5_system 43 = .ok (.iconst 1, 1) := by decide +kernel
theorem dX5_system_44 : decode cX5_system 44 = .ok (.ireturn, 1) := by decide +kernel
theorem dX5_sound_0 : decode cX5_sound 0 = .ok (.iload_n 1, 1) := by decide +kernel
theorem dX5_sound_1 : decode cX5_sound 1 = .ok (.ifCond .lt 9, 3) := by decide +kernel
theorem dX5_sound_4 : decode cX5_sound 4 = .ok (.iload_n 1, 1) := by decide +kernel
theorem dX5_sound_5 : decode cX5_sound 5 = .ok (.bipush 72, 2) := by decide +kernel
theorem dX5_sound_7 : decode cX5_sound 7 = .ok (.if_icmp .lt 5, 3) := by decide +kernel
theorem dX5_sound_10 : decode cX5_sound 10 = .ok (.iconst (-1), 1) := by decide +kernel
theorem dX5_sound_11 : decode cX5_sound 11 = .ok (.ireturn, 1) := by decide +kernel
theorem dX5_sound_12 : decode cX5_sound 12 = .ok (.aload_n 0, 1) := by decide +kernel
theorem dX5_sound_13 : decode cX5_sound 13 = .ok (.getfield 26, 3) := by decide +kernel
theorem dX5_sound_16 : decode cX5_sound 16 = .ok (.getfield 58, 3) := by decide +kernel
theorem dX5_sound_19 : decode cX5_sound 19 = .ok (.getfield 62, 3) := by decide +kernel
theorem dX5_sound_22 : decode cX5_sound 22 = .ok (.iload_n 1, 1) := by decide +kernel
theorem dX5_sound_23 : decode cX5_sound 23 = .ok (.iaload, 1) := by decide +kernel
theorem dX5_sound_24 : decode cX5_sound 24 = .ok (.istore_n 2, 1) := by decide +kernel
theorem dX5_sound_25 : decode cX5_sound 25 = .ok (.iload_n 2, 1) := by decide +kernel
theorem dX5_sound_26 : decode cX5_sound 26 = .ok (.ifCond .ne 8, 3) := by decide +kernel
theorem dX5_sound_29 : decode cX5_sound 29 = .ok (.bipush (-3), 2) := by decide +kernel
theorem dX5_sound_31 : decode cX5_sound 31 = .ok (.goto 4, 3) := by decide +kernel
theorem dX5_sound_34 : decode cX5_sound 34 = .ok (.iload_n 2, 1) := by decide +kernel
theorem dX5_sound_35 : decode cX5_sound 35 = .ok (.ireturn, 1) := by decide +kernel
theorem dX5_root_0 : decode cX5_root 0 = .ok (.iload_n 1, 1) := by decide +kernel
theorem dX5_root_1 : decode cX5_root 1 = .ok (.ifCond .lt 9, 3) := by decide +kernel
theorem dX5_root_4 : decode cX5_root 4 = .ok (.iload_n 1, 1) := by decide +kernel
theorem dX5_root_5 : decode cX5_root 5 = .ok (.bipush 12, 2) := by decide +kernel
theorem dX5_root_7 : decode cX5_root 7 = .ok (.if_icmp .lt 5, 3) := by decide +kernel
theorem dX5_root_10 : decode cX5_root 10 = .ok (.iconst (-1), 1) := by decide +kernel
theorem dX5_root_11 : decode cX5_root 11 = .ok (.ireturn, 1) := by decide +kernel
theorem dX5_root_12 : decode cX5_root 12 = .ok (.aload_n 0, 1) := by decide +kernel
theorem dX5_root_13 : decode cX5_root 13 = .ok (.getfield 10, 3) := by decide +kernel
theorem dX5_root_16 : decode cX5_root 16 = .ok (.getfield 40, 3) := by decide +kernel
theorem dX5_root_19 : decode cX5_root 19 = .ok (.iload_n 1, 1) := by decide +kernel
theorem dX5_root_20 : decode cX5_root 20 = .ok (.invokestatic 68, 3) := by decide +kernel
theorem dX5_root_23 : decode cX5_root 23 = .ok (.ireturn, 1) := by decide +kernel
theorem dX5_rule_0 : decode cX5_rule 0 = .ok (.iload_n 1, 1) := by decide +kernel
theorem dX5_rule_1 : decode cX5_rule 1 = .ok (.tableswitch 45 0 2 #[27, 33, 39], 27) := by decide +kernel
theorem dX5_rule_28 : decode cX5_rule 28 = .ok (.aload_n 0, 1) := by decide +kernel
theorem dX5_rule_29 : decode cX5_rule 29 = .ok (.iload_n 2, 1) := by decide +kernel
theorem dX5_rule_30 : decode cX5_rule 30 = .ok (.invokevirtual 72, 3) := by decide +kernel
theorem dX5_rule_33 : decode cX5_rule 33 = .ok (.ireturn, 1) := by decide +kernel
theorem dX5_rule_34 : decode cX5_rule 34 = .ok (.aload_n 0, 1) := by decide +kernel
theorem dX5_rule_35 : decode cX5_rule 35 = .ok (.iload_n 2, 1) := by decide +kernel
theorem dX5_rule_36 : decode cX5_rule 36 = .ok (.invokevirtual 76, 3) := by decide +kernel
theorem dX5_rule_39 : decode cX5_rule 39 = .ok (.ireturn, 1) := by decide +kernel
theorem dX5_rule_40 : decode cX5_rule 40 = .ok (.aload_n 0, 1) := by decide +kernel
theorem dX5_rule_41 : decode cX5_rule 41 = .ok (.iload_n 2, 1) := by decide +kernel
theorem dX5_rule_42 : decode cX5_rule 42 = .ok (.invokevirtual 79, 3) := by decide +kernel
theorem dX5_rule_45 : decode cX5_rule 45 = .ok (.ireturn, 1) := by decide +kernel
theorem dX5_rule_46 : decode cX5_rule 46 = .ok (.iconst (-1), 1) := by decide +kernel
theorem dX5_rule_47 : decode cX5_rule 47 = .ok (.ireturn, 1) := by decide +kernel
theorem dX5_beat_0 : decode cX5_beat 0 = .ok (.iload_n 1, 1) := by decide +kernel
theorem dX5_beat_1 : decode cX5_beat 1 = .ok (.iload_n 2, 1) := by decide +kernel
theorem dX5_beat_2 : decode cX5_beat 2 = .ok (.iload_n 3, 1) := by decide +kernel
theorem dX5_beat_3 : decode cX5_beat 3 = .ok (.iload 4, 2) := by decide +kernel
theorem dX5_beat_5 : decode cX5_beat 5 = .ok (.invokestatic 82, 3) := by decide +kernel
theorem dX5_beat_8 : decode cX5_beat 8 = .ok (.ifCond .ne 5, 3) := by decide +kernel
theorem dX5_beat_11 : decode cX5_beat 11 = .ok (.iconst (-1), 1) := by decide +kernel
theorem dX5_beat_12 : decode cX5_beat 12 = .ok (.ireturn, 1) := by decide +kernel
theorem dX5_beat_13 : decode cX5_beat 13 = .ok (.aload_n 0, 1) := by decide +kernel
theorem dX5_beat_14 : decode cX5_beat 14 = .ok (.getfield 10, 3) := by decide +kernel
theorem dX5_beat_17 : decode cX5_beat 17 = .ok (.getfield 86, 3) := by decide +kernel
theorem dX5_beat_20 : decode cX5_beat 20 = .ok (.bipush 8, 2) := by decide +kernel
theorem dX5_beat_22 : decode cX5_beat 22 = .ok (.if_icmp .lt 6, 3) := by decide +kernel
theorem dX5_beat_25 : decode cX5_beat 25 = .ok (.bipush (-2), 2) := by decide +kernel
theorem dX5_beat_27 : decode cX5_beat 27 = .ok (.ireturn, 1) := by decide +kernel
theorem dX5_beat_28 : decode cX5_beat 28 = .ok (.aload_n 0, 1) := by decide +kernel
theorem dX5_beat_29 : decode cX5_beat 29 = .ok (.getfield 10, 3) := by decide +kernel
theorem dX5_beat_32 : decode cX5_beat 32 = .ok (.getfield 86, 3) := by decide +kernel
theorem dX5_beat_35 : decode cX5_beat 35 = .ok (.istore 5, 2) := by decide +kernel
theorem dX5_beat_37 : decode cX5_beat 37 = .ok (.aload_n 0, 1) := by decide +kernel
theorem dX5_beat_38 : decode cX5_beat 38 = .ok (.getfield 10, 3) := by decide +kernel
theorem dX5_beat_41 : decode cX5_beat 41 = .ok (.iload 5, 2) := by decide +kernel
theorem dX5_beat_43 : decode cX5_beat 43 = .ok (.iconst 1, 1) := by decide +kernel
theorem dX5_beat_44 : decode cX5_beat 44 = .ok (.iadd, 1) := by decide +kernel
theorem dX5_beat_45 : decode cX5_beat 45 = .ok (.putfield 86, 3) := by decide +kernel
theorem dX5_beat_48 : decode cX5_beat 48 = .ok (.aload_n 0, 1) := by decide +kernel
theorem dX5_beat_49 : decode cX5_beat 49 = .ok (.getfield 10, 3) := by decide +kernel
theorem dX5_beat_52 : decode cX5_beat 52 = .ok (.iload 5, 2) := by decide +kernel
theorem dX5_beat_54 : decode cX5_beat 54 = .ok (.iload_n 1, 1) := by decide +kernel
theorem dX5_beat_55 : decode cX5_beat 55 = .ok (.iload_n 2, 1) := by decide +kernel
theorem dX5_beat_56 : decode cX5_beat 56 = .ok (.iload_n 3, 1) := by decide +kernel
theorem dX5_beat_57 : decode cX5_beat 57 = .ok (.iload 4, 2) := by decide +kernel
theorem dX5_beat_59 : decode cX5_beat 59 = .ok (.invokevirtual 89, 3) := by decide +kernel
theorem dX5_beat_62 : decode cX5_beat 62 = .ok (.aload_n 0, 1) := by decide +kernel
theorem dX5_beat_63 : decode cX5_beat 63 = .ok (.iload 5, 2) := by decide +kernel
theorem dX5_beat_65 : decode cX5_beat 65 = .ok (.invokevirtual 93, 3) := by decide +kernel
theorem dX5_beat_68 : decode cX5_beat 68 = .ok (.iload 5, 2) := by decide +kernel
theorem dX5_beat_70 : decode cX5_beat 70 = .ok (.ireturn, 1) := by decide +kernel
theorem dX5_alter_0 : decode cX5_alter 0 = .ok (.aload_n 0, 1) := by decide +kernel
theorem dX5_alter_1 : decode cX5_alter 1 = .ok (.getfield 10, 3) := by decide +kernel
theorem dX5_alter_4 : decode cX5_alter 4 = .ok (.iload_n 1, 1) := by decide +kernel
theorem dX5_alter_5 : decode cX5_alter 5 = .ok (.invokevirtual 97, 3) := by decide +kernel
theorem dX5_alter_8 : decode cX5_alter 8 = .ok (.ifCond .eq 15, 3) := by decide +kernel
theorem dX5_alter_11 : decode cX5_alter 11 = .ok (.iload_n 2, 1) := by decide +kernel
theorem dX5_alter_12 : decode cX5_alter 12 = .ok (.iload_n 3, 1) := by decide +kernel
theorem dX5_alter_13 : decode cX5_alter 13 = .ok (.iload 4, 2) := by decide +kernel
theorem dX5_alter_15 : decode cX5_alter 15 = .ok (.iload 5, 2) := by decide +kernel
theorem dX5_alter_17 : decode cX5_alter 17 = .ok (.invokestatic 82, 3) := by decide +kernel
theorem dX5_alter_20 : decode cX5_alter 20 = .ok (.ifCond .ne 5, 3) := by decide +kernel
theorem dX5_alter_23 : decode cX5_alter 23 = .ok (.iconst (-1), 1) := by decide +kernel
theorem dX5_alter_24 : decode cX5_alter 24 = .ok (.ireturn, 1) := by decide +kernel
theorem dX5_alter_25 : decode cX5_alter 25 = .ok (.aload_n 0, 1) := by decide +kernel
theorem dX5_alter_26 : decode cX5_alter 26 = .ok (.getfield 10, 3) := by decide +kernel
theorem dX5_alter_29 : decode cX5_alter 29 = .ok (.iload_n 1, 1) := by decide +kernel
theorem dX5_alter_30 : decode cX5_alter 30 = .ok (.iload_n 2, 1) := by decide +kernel
theorem dX5_alter_31 : decode cX5_alter 31 = .ok (.iload_n 3, 1) := by decide +kernel
theorem dX5_alter_32 : decode cX5_alter 32 = .ok (.iload 4, 2) := by decide +kernel
theorem dX5_alter_34 : decode cX5_alter 34 = .ok (.iload 5, 2) := by decide +kernel
theorem dX5_alter_36 : decode cX5_alter 36 = .ok (.invokevirtual 89, 3) := by decide +kernel
theorem dX5_alter_39 : decode cX5_alter 39 = .ok (.aload_n 0, 1) := by decide +kernel
theorem dX5_alter_40 : decode cX5_alter 40 = .ok (.iload_n 1, 1) := by decide +kernel
theorem dX5_alter_41 : decode cX5_alter 41 = .ok (.invokevirtual 93, 3) := by decide +kernel
theorem dX5_alter_44 : decode cX5_alter 44 = .ok (.iconst 1, 1) := by decide +kernel
theorem dX5_alter_45 : decode cX5_alter 45 = .ok (.ireturn, 1) := by decide +kernel
theorem dX5_drop_0 : decode cX5_drop 0 = .ok (.aload_n 0, 1) := by decide +kernel
theorem dX5_drop_1 : decode cX5_drop 1 = .ok (.getfield 10, 3) := by decide +kernel
theorem dX5_drop_4 : decode cX5_drop 4 = .ok (.getfield 86, 3) := by decide +kernel
theorem dX5_drop_7 : decode cX5_drop 7 = .ok (.ifCond .gt 6, 3) := by decide +kernel
theorem dX5_drop_10 : decode cX5_drop 10 = .ok (.bipush (-3), 2) := by decide +kernel
theorem dX5_drop_12 : decode cX5_drop 12 = .ok (.ireturn, 1) := by decide +kernel
theorem dX5_drop_13 : decode cX5_drop 13 = .ok (.aload_n 0, 1) := by decide +kernel
theorem dX5_drop_14 : decode cX5_drop 14 = .ok (.getfield 10, 3) := by decide +kernel
theorem dX5_drop_17 : decode cX5_drop 17 = .ok (.dup, 1) := by decide +kernel
theorem dX5_drop_18 : decode cX5_drop 18 = .ok (.getfield 86, 3) := by decide +kernel
theorem dX5_drop_21 : decode cX5_drop 21 = .ok (.iconst 1, 1) := by decide +kernel
theorem dX5_drop_22 : decode cX5_drop 22 = .ok (.isub, 1) := by decide +kernel
theorem dX5_drop_23 : decode cX5_drop 23 = .ok (.putfield 86, 3) := by decide +kernel
theorem dX5_drop_26 : decode cX5_drop 26 = .ok (.aload_n 0, 1) := by decide +kernel
theorem dX5_drop_27 : decode cX5_drop 27 = .ok (.invokevirtual 51, 3) := by decide +kernel
theorem dX5_drop_30 : decode cX5_drop 30 = .ok (.aload_n 0, 1) := by decide +kernel
theorem dX5_drop_31 : decode cX5_drop 31 = .ok (.getfield 10, 3) := by decide +kernel
theorem dX5_drop_34 : decode cX5_drop 34 = .ok (.getfield 86, 3) := by decide +kernel
theorem dX5_drop_37 : decode cX5_drop 37 = .ok (.ireturn, 1) := by decide +kernel
theorem dX5_of_0 : decode cX5_of 0 = .ok (.aload_n 0, 1) := by decide +kernel
theorem dX5_of_1 : decode cX5_of 1 = .ok (.getfield 10, 3) := by decide +kernel
theorem dX5_of_4 : decode cX5_of 4 = .ok (.iload_n 1, 1) := by decide +kernel
theorem dX5_of_5 : decode cX5_of 5 = .ok (.invokevirtual 97, 3) := by decide +kernel
theorem dX5_of_8 : decode cX5_of 8 = .ok (.ifCond .ne 6, 3) := by decide +kernel
theorem dX5_of_11 : decode cX5_of 11 = .ok (.bipush (-9), 2) := by decide +kernel
theorem dX5_of_13 : decode cX5_of 13 = .ok (.ireturn, 1) := by decide +kernel
theorem dX5_of_14 : decode cX5_of 14 = .ok (.iload_n 2, 1) := by decide +kernel
theorem dX5_of_15 : decode cX5_of 15 = .ok (.tableswitch 69 0 3 #[29, 39, 49, 59], 29) := by decide +kernel
theorem dX5_of_44 : decode cX5_of 44 = .ok (.aload_n 0, 1) := by decide +kernel
theorem dX5_of_45 : decode cX5_of 45 = .ok (.getfield 10, 3) := by decide +kernel
theorem dX5_of_48 : decode cX5_of 48 = .ok (.getfield 101, 3) := by decide +kernel
theorem dX5_of_51 : decode cX5_of 51 = .ok (.iload_n 1, 1) := by decide +kernel
theorem dX5_of_52 : decode cX5_of 52 = .ok (.iaload, 1) := by decide +kernel
theorem dX5_of_53 : decode cX5_of 53 = .ok (.ireturn, 1) := by decide +kernel
theorem dX5_of_54 : decode cX5_of 54 = .ok (.aload_n 0, 1) := by decide +kernel
theorem dX5_of_55 : decode cX5_of 55 = .ok (.getfield 10, 3) := by decide +kernel
theorem dX5_of_58 : decode cX5_of 58 = .ok (.getfield 104, 3) := by decide +kernel
theorem dX5_of_61 : decode cX5_of 61 = .ok (.iload_n 1, 1) := by decide +kernel
theorem dX5_of_62 : decode cX5_of 62 = .ok (.iaload, 1) := by decide +kernel
theorem dX5_of_63 : decode cX5_of 63 = .ok (.ireturn, 1) := by decide +kernel
theorem dX5_of_64 : decode cX5_of 64 = .ok (.aload_n 0, 1) := by decide +kernel
theorem dX5_of_65 : decode cX5_of 65 = .ok (.getfield 10, 3) := by decide +kernel
theorem dX5_of_68 : decode cX5_of 68 = .ok (.getfield 107, 3) := by decide +kernel
theorem dX5_of_71 : decode cX5_of 71 = .ok (.iload_n 1, 1) := by decide +kernel
theorem dX5_of_72 : decode cX5_of 72 = .ok (.iaload, 1) := by decide +kernel
theorem dX5_of_73 : decode cX5_of 73 = .ok (.ireturn, 1) := by decide +kernel
theorem dX5_of_74 : decode cX5_of 74 = .ok (.aload_n 0, 1) := by decide +kernel
theorem dX5_of_75 : decode cX5_of 75 = .ok (.getfield 10, 3) := by decide +kernel
theorem dX5_of_78 : decode cX5_of 78 = .ok (.getfield 110, 3) := by decide +kernel
theorem dX5_of_81 : decode cX5_of 81 = .ok (.iload_n 1, 1) := by decide +kernel
theorem dX5_of_82 : decode cX5_of 82 = .ok (.iaload, 1) := by decide +kernel
theorem dX5_of_83 : decode cX5_of 83 = .ok (.ireturn, 1) := by decide +kernel
theorem dX5_of_84 : decode cX5_of 84 = .ok (.bipush (-9), 2) := by decide +kernel
theorem dX5_of_86 : decode cX5_of 86 = .ok (.ireturn, 1) := by decide +kernel
theorem dX5_good_0 : decode cX5_good 0 = .ok (.aload_n 0, 1) := by decide +kernel
theorem dX5_good_1 : decode cX5_good 1 = .ok (.getfield 10, 3) := by decide +kernel
theorem dX5_good_4 : decode cX5_good 4 = .ok (.iload_n 1, 1) := by decide +kernel
theorem dX5_good_5 : decode cX5_good 5 = .ok (.invokevirtual 97, 3) := by decide +kernel
theorem dX5_good_8 : decode cX5_good 8 = .ok (.ifCond .ne 5, 3) := by decide +kernel
theorem dX5_good_11 : decode cX5_good 11 = .ok (.iconst (-1), 1) := by decide +kernel
theorem dX5_good_12 : decode cX5_good 12 = .ok (.ireturn, 1) := by decide +kernel
theorem dX5_good_13 : decode cX5_good 13 = .ok (.aload_n 0, 1) := by decide +kernel
theorem dX5_good_14 : decode cX5_good 14 = .ok (.getfield 26, 3) := by decide +kernel
theorem dX5_good_17 : decode cX5_good 17 = .ok (.getfield 113, 3) := by decide +kernel
theorem dX5_good_20 : decode cX5_good 20 = .ok (.iload_n 1, 1) := by decide +kernel
theorem dX5_good_21 : decode cX5_good 21 = .ok (.aaload, 1) := by decide +kernel
theorem dX5_good_22 : decode cX5_good 22 = .ok (.astore_n 3, 1) := by decide +kernel
theorem dX5_good_23 : decode cX5_good 23 = .ok (.iload_n 2, 1) := by decide +kernel
theorem dX5_good_24 : decode cX5_good 24 = .ok (.tableswitch 52 0 3 #[32, 37, 42, 47], 32) := by decide +kernel
theorem dX5_good_56 : decode cX5_good 56 = .ok (.aload_n 3, 1) := by decide +kernel
theorem dX5_good_57 : decode cX5_good 57 = .ok (.getfield 117, 3) := by decide +kernel
theorem dX5_good_60 : decode cX5_good 60 = .ok (.ireturn, 1) := by decide +kernel
theorem dX5_good_61 : decode cX5_good 61 = .ok (.aload_n 3, 1) := by decide +kernel
theorem dX5_good_62 : decode cX5_good 62 = .ok (.getfield 122, 3) := by decide +kernel
theorem dX5_good_65 : decode cX5_good 65 = .ok (.ireturn, 1) := by decide +kernel
theorem dX5_good_66 : decode cX5_good 66 = .ok (.aload_n 3, 1) := by decide +kernel
theorem dX5_good_67 : decode cX5_good 67 = .ok (.getfield 125, 3) := by decide +kernel
theorem dX5_good_70 : decode cX5_good 70 = .ok (.ireturn, 1) := by decide +kernel
theorem dX5_good_71 : decode cX5_good 71 = .ok (.aload_n 3, 1) := by decide +kernel
theorem dX5_good_72 : decode cX5_good 72 = .ok (.getfield 128, 3) := by decide +kernel
theorem dX5_good_75 : decode cX5_good 75 = .ok (.ireturn, 1) := by decide +kernel
theorem dX5_good_76 : decode cX5_good 76 = .ok (.iconst (-1), 1) := by decide +kernel
theorem dX5_good_77 : decode cX5_good 77 = .ok (.ireturn, 1) := by decide +kernel
theorem dX5_button_0 : decode cX5_button 0 = .ok (.aload_n 0, 1) := by decide +kernel
theorem dX5_button_1 : decode cX5_button 1 = .ok (.getfield 10, 3) := by decide +kernel
theorem dX5_button_4 : decode cX5_button 4 = .ok (.iload_n 1, 1) := by decide +kernel
theorem dX5_button_5 : decode cX5_button 5 = .ok (.invokevirtual 97, 3) := by decide +kernel
theorem dX5_button_8 : decode cX5_button 8 = .ok (.ifCond .ne 5, 3) := by decide +kernel
theorem dX5_button_11 : decode cX5_button 11 = .ok (.iconst (-1), 1) := by decide +kernel
theorem dX5_button_12 : decode cX5_button 12 = .ok (.ireturn, 1) := by decide +kernel
theorem dX5_button_13 : decode cX5_button 13 = .ok (.aload_n 0, 1) := by decide +kernel
theorem dX5_button_14 : decode cX5_button 14 = .ok (.getfield 26, 3) := by decide +kernel
theorem dX5_button_17 : decode cX5_button 17 = .ok (.getfield 113, 3) := by decide +kernel
theorem dX5_button_20 : decode cX5_button 20 = .ok (.iload_n 1, 1) := by decide +kernel
theorem dX5_button_21 : decode cX5_button 21 = .ok (.aaload, 1) := by decide +kernel
theorem dX5_button_22 : decode cX5_button 22 = .ok (.astore 4, 2) := by decide +kernel
theorem dX5_button_24 : decode cX5_button 24 = .ok (.iload_n 2, 1) := by decide +kernel
theorem dX5_button_25 : decode cX5_button 25 = .ok (.ifCond .lt 25, 3) := by decide +kernel
theorem dX5_button_28 : decode cX5_button 28 = .ok (.iload_n 2, 1) := by decide +kernel
theorem dX5_button_29 : decode cX5_button 29 = .ok (.aload 4, 2) := by decide +kernel
theorem dX5_button_31 : decode cX5_button 31 = .ok (.getfield 128, 3) := by decide +kernel
theorem dX5_button_34 : decode cX5_button 34 = .ok (.if_icmp .ge 16, 3) := by decide +kernel
theorem dX5_button_37 : decode cX5_button 37 = .ok (.iload_n 3, 1) := by decide +kernel
theorem dX5_button_38 : decode cX5_button 38 = .ok (.ifCond .lt 12, 3) := by decide +kernel
theorem dX5_button_41 : decode cX5_button 41 = .ok (.iload_n 3, 1) := by decide +kernel
theorem dX5_button_42 : decode cX5_button 42 = .ok (.aload 4, 2) := by decide +kernel
theorem dX5_button_44 : decode cX5_button 44 = .ok (.getfield 125, 3) := by decide +kernel
theorem dX5_button_47 : decode cX5_button 47 = .ok (.if_icmp .lt 6, 3) := by decide +kernel
theorem dX5_button_50 : decode cX5_button 50 = .ok (.bipush (-3), 2) := by decide +kernel
theorem dX5_button_52 : decode cX5_button 52 = .ok (.ireturn, 1) := by decide +kernel
theorem dX5_button_53 : decode cX5_button 53 = .ok (.aload 4, 2) := by decide +kernel
theorem dX5_button_55 : decode cX5_button 55 = .ok (.iload_n 2, 1) := by decide +kernel
theorem dX5_button_56 : decode cX5_button 56 = .ok (.iload_n 3, 1) := by decide +kernel
theorem dX5_button_57 : decode cX5_button 57 = .ok (.invokevirtual 131, 3) := by decide +kernel
theorem dX5_button_60 : decode cX5_button 60 = .ok (.ireturn, 1) := by decide +kernel
theorem dX5_hand_0 : decode cX5_hand 0 = .ok (.aload_n 0, 1) := by decide +kernel
theorem dX5_hand_1 : decode cX5_hand 1 = .ok (.getfield 10, 3) := by decide +kernel
theorem dX5_hand_4 : decode cX5_hand 4 = .ok (.iload_n 1, 1) := by decide +kernel
theorem dX5_hand_5 : decode cX5_hand 5 = .ok (.invokevirtual 97, 3) := by decide +kernel
theorem dX5_hand_8 : decode cX5_hand 8 = .ok (.ifCond .eq 15, 3) := by decide +kernel
theorem dX5_hand_11 : decode cX5_hand 11 = .ok (.aload_n 0, 1) := by decide +kernel
theorem dX5_hand_12 : decode cX5_hand 12 = .ok (.getfield 26, 3) := by decide +kernel
theorem dX5_hand_15 : decode cX5_hand 15 = .ok (.getfield 134, 3) := by decide +kernel
theorem dX5_hand_18 : decode cX5_hand 18 = .ok (.iload_n 1, 1) := by decide +kernel
theorem dX5_hand_19 : decode cX5_hand 19 = .ok (.iaload, 1) := by decide +kernel
theorem dX5_hand_20 : decode cX5_hand 20 = .ok (.goto 4, 3) := by decide +kernel
theorem dX5_hand_23 : decode cX5_hand 23 = .ok (.iconst (-1), 1) := by decide +kernel
theorem dX5_hand_24 : decode cX5_hand 24 = .ok (.ireturn, 1) := by decide +kernel
theorem dX5_jumps_0 : decode cX5_jumps 0 = .ok (.aload_n 0, 1) := by decide +kernel
theorem dX5_jumps_1 : decode cX5_jumps 1 = .ok (.getfield 26, 3) := by decide +kernel
theorem dX5_jumps_4 : decode cX5_jumps 4 = .ok (.getfield 137, 3) := by decide +kernel
theorem dX5_jumps_7 : decode cX5_jumps 7 = .ok (.ireturn, 1) := by decide +kernel
theorem dX5_sounds_0 : decode cX5_sounds 0 = .ok (.aload_n 0, 1) := by decide +kernel
theorem dX5_sounds_1 : decode cX5_sounds 1 = .ok (.getfield 10, 3) := by decide +kernel
theorem dX5_sounds_4 : decode cX5_sounds 4 = .ok (.iload_n 1, 1) := by decide +kernel
theorem dX5_sounds_5 : decode cX5_sounds 5 = .ok (.invokevirtual 97, 3) := by decide +kernel
theorem dX5_sounds_8 : decode cX5_sounds 8 = .ok (.ifCond .eq 14, 3) := by decide +kernel
theorem dX5_sounds_11 : decode cX5_sounds 11 = .ok (.aload_n 0, 1) := by decide +kernel
theorem dX5_sounds_12 : decode cX5_sounds 12 = .ok (.getfield 26, 3) := by decide +kernel
theorem dX5_sounds_15 : decode cX5_sounds 15 = .ok (.iload_n 1, 1) := by decide +kernel
theorem dX5_sounds_16 : decode cX5_sounds 16 = .ok (.invokevirtual 140, 3) := by decide +kernel
theorem dX5_sounds_19 : decode cX5_sounds 19 = .ok (.goto 4, 3) := by decide +kernel
theorem dX5_sounds_22 : decode cX5_sounds 22 = .ok (.iconst (-1), 1) := by decide +kernel
theorem dX5_sounds_23 : decode cX5_sounds 23 = .ok (.ireturn, 1) := by decide +kernel
theorem dX5_changed_0 : decode cX5_changed 0 = .ok (.iload_n 1, 1) := by decide +kernel
theorem dX5_changed_1 : decode cX5_changed 1 = .ok (.iload_n 2, 1) := by decide +kernel
theorem dX5_changed_2 : decode cX5_changed 2 = .ok (.invokestatic 54, 3) := by decide +kernel
theorem dX5_changed_5 : decode cX5_changed 5 = .ok (.ifCond .ne 5, 3) := by decide +kernel
theorem dX5_changed_8 : decode cX5_changed 8 = .ok (.iconst (-1), 1) := by decide +kernel
theorem dX5_changed_9 : decode cX5_changed 9 = .ok (.ireturn, 1) := by decide +kernel
theorem dX5_changed_10 : decode cX5_changed 10 = .ok (.aload_n 0, 1) := by decide +kernel
theorem dX5_changed_11 : decode cX5_changed 11 = .ok (.getfield 30, 3) := by decide +kernel
theorem dX5_changed_14 : decode cX5_changed 14 = .ok (.iload_n 1, 1) := by decide +kernel
theorem dX5_changed_15 : decode cX5_changed 15 = .ok (.iload_n 2, 1) := by decide +kernel
theorem dX5_changed_16 : decode cX5_changed 16 = .ok (.aload_n 0, 1) := by decide +kernel
theorem dX5_changed_17 : decode cX5_changed 17 = .ok (.getfield 10, 3) := by decide +kernel
theorem dX5_changed_20 : decode cX5_changed 20 = .ok (.invokevirtual 47, 3) := by decide +kernel
theorem dX5_changed_23 : decode cX5_changed 23 = .ok (.aload_n 0, 1) := by decide +kernel
theorem dX5_changed_24 : decode cX5_changed 24 = .ok (.getfield 30, 3) := by decide +kernel
theorem dX5_changed_27 : decode cX5_changed 27 = .ok (.aload_n 0, 1) := by decide +kernel
theorem dX5_changed_28 : decode cX5_changed 28 = .ok (.getfield 10, 3) := by decide +kernel
theorem dX5_changed_31 : decode cX5_changed 31 = .ok (.getfield 86, 3) := by decide +kernel
theorem dX5_changed_34 : decode cX5_changed 34 = .ok (.invokevirtual 143, 3) := by decide +kernel
theorem dX5_changed_37 : decode cX5_changed 37 = .ok (.iconst 0, 1) := by decide +kernel
theorem dX5_changed_38 : decode cX5_changed 38 = .ok (.istore_n 3, 1) := by decide +kernel
theorem dX5_changed_39 : decode cX5_changed 39 = .ok (.iconst 0, 1) := by decide +kernel
theorem dX5_changed_40 : decode cX5_changed 40 = .ok (.istore 4, 2) := by decide +kernel
theorem dX5_changed_42 : decode cX5_changed 42 = .ok (.iload 4, 2) := by decide +kernel
theorem dX5_changed_44 : decode cX5_changed 44 = .ok (.aload_n 0, 1) := by decide +kernel
theorem dX5_changed_45 : decode cX5_changed 45 = .ok (.getfield 10, 3) := by decide +kernel
theorem dX5_changed_48 : decode cX5_changed 48 = .ok (.getfield 86, 3) := by decide +kernel
theorem dX5_changed_51 : decode cX5_changed 51 = .ok (.if_icmp .ge 28, 3) := by decide +kernel
theorem dX5_changed_54 : decode cX5_changed 54 = .ok (.aload_n 0, 1) := by decide +kernel
theorem dX5_changed_55 : decode cX5_changed 55 = .ok (.getfield 26, 3) := by decide +kernel
theorem dX5_changed_58 : decode cX5_changed 58 = .ok (.aload_n 0, 1) := by decide +kernel
theorem dX5_changed_59 : decode cX5_changed 59 = .ok (.getfield 30, 3) := by decide +kernel
theorem dX5_changed_62 : decode cX5_changed 62 = .ok (.iload 4, 2) := by decide +kernel
theorem dX5_changed_64 : decode cX5_changed 64 = .ok (.invokevirtual 146, 3) := by decide +kernel
theorem dX5_changed_67 : decode cX5_changed 67 = .ok (.ifCond .ne 6, 3) := by decide +kernel
theorem dX5_changed_70 : decode cX5_changed 70 = .ok (.iinc 3 1, 3) := by decide +kernel
theorem dX5_changed_73 : decode cX5_changed 73 = .ok (.iinc 4 1, 3) := by decide +kernel
theorem dX5_changed_76 : decode cX5_changed 76 = .ok (.goto (-34), 3) := by decide +kernel
theorem dX5_changed_79 : decode cX5_changed 79 = .ok (.iload_n 3, 1) := by decide +kernel
theorem dX5_changed_80 : decode cX5_changed 80 = .ok (.ireturn, 1) := by decide +kernel
theorem dX5_use_0 : decode cX5_use 0 = .ok (.aload_n 0, 1) := by decide +kernel
theorem dX5_use_1 : decode cX5_use 1 = .ok (.getfield 10, 3) := by decide +kernel
theorem dX5_use_4 : decode cX5_use 4 = .ok (.iload_n 1, 1) := by decide +kernel
theorem dX5_use_5 : decode cX5_use 5 = .ok (.invokevirtual 97, 3) := by decide +kernel
theorem dX5_use_8 : decode cX5_use 8 = .ok (.ifCond .eq 15, 3) := by decide +kernel
theorem dX5_use_11 : decode cX5_use 11 = .ok (.aload_n 0, 1) := by decide +kernel
theorem dX5_use_12 : decode cX5_use 12 = .ok (.getfield 36, 3) := by decide +kernel
theorem dX5_use_15 : decode cX5_use 15 = .ok (.getfield 150, 3) := by decide +kernel
theorem dX5_use_18 : decode cX5_use 18 = .ok (.iload_n 1, 1) := by decide +kernel
theorem dX5_use_19 : decode cX5_use 19 = .ok (.iaload, 1) := by decide +kernel
theorem dX5_use_20 : decode cX5_use 20 = .ok (.goto 4, 3) := by decide +kernel
theorem dX5_use_23 : decode cX5_use 23 = .ok (.iconst (-1), 1) := by decide +kernel
theorem dX5_use_24 : decode cX5_use 24 = .ok (.ireturn, 1) := by decide +kernel
theorem dX5_bellows_0 : decode cX5_bellows 0 = .ok (.aload_n 0, 1) := by decide +kernel
theorem dX5_bellows_1 : decode cX5_bellows 1 = .ok (.getfield 10, 3) := by decide +kernel
theorem dX5_bellows_4 : decode cX5_bellows 4 = .ok (.iload_n 1, 1) := by decide +kernel
theorem dX5_bellows_5 : decode cX5_bellows 5 = .ok (.invokevirtual 97, 3) := by decide +kernel
theorem dX5_bellows_8 : decode cX5_bellows 8 = .ok (.ifCond .ne 5, 3) := by decide +kernel
theorem dX5_bellows_11 : decode cX5_bellows 11 = .ok (.iconst (-1), 1) := by decide +kernel
theorem dX5_bellows_12 : decode cX5_bellows 12 = .ok (.ireturn, 1) := by decide +kernel
theorem dX5_bellows_13 : decode cX5_bellows 13 = .ok (.aload_n 0, 1) := by decide +kernel
theorem dX5_bellows_14 : decode cX5_bellows 14 = .ok (.getfield 36, 3) := by decide +kernel
theorem dX5_bellows_17 : decode cX5_bellows 17 = .ok (.invokevirtual 153, 3) := by decide +kernel
theorem dX5_bellows_20 : decode cX5_bellows 20 = .ok (.ifCond .ne 6, 3) := by decide +kernel
theorem dX5_bellows_23 : decode cX5_bellows 23 = .ok (.bipush (-3), 2) := by decide +kernel
theorem dX5_bellows_25 : decode cX5_bellows 25 = .ok (.ireturn, 1) := by decide +kernel
theorem dX5_bellows_26 : decode cX5_bellows 26 = .ok (.aload_n 0, 1) := by decide +kernel
theorem dX5_bellows_27 : decode cX5_bellows 27 = .ok (.getfield 36, 3) := by decide +kernel
theorem dX5_bellows_30 : decode cX5_bellows 30 = .ok (.aload_n 0, 1) := by decide +kernel
theorem dX5_bellows_31 : decode cX5_bellows 31 = .ok (.getfield 36, 3) := by decide +kernel
theorem dX5_bellows_34 : decode cX5_bellows 34 = .ok (.getfield 157, 3) := by decide +kernel
theorem dX5_bellows_37 : decode cX5_bellows 37 = .ok (.iload_n 1, 1) := by decide +kernel
theorem dX5_bellows_38 : decode cX5_bellows 38 = .ok (.invokevirtual 160, 3) := by decide +kernel
theorem dX5_bellows_41 : decode cX5_bellows 41 = .ok (.ifCond .eq 7, 3) := by decide +kernel
theorem dX5_bellows_44 : decode cX5_bellows 44 = .ok (.iconst 1, 1) := by decide +kernel
theorem dX5_bellows_45 : decode cX5_bellows 45 = .ok (.goto 4, 3) := by decide +kernel
theorem dX5_bellows_48 : decode cX5_bellows 48 = .ok (.iconst 0, 1) := by decide +kernel
theorem dX5_bellows_49 : decode cX5_bellows 49 = .ok (.ireturn, 1) := by decide +kernel
theorem dX5_air_0 : decode cX5_air 0 = .ok (.aload_n 0, 1) := by decide +kernel
theorem dX5_air_1 : decode cX5_air 1 = .ok (.getfield 10, 3) := by decide +kernel
theorem dX5_air_4 : decode cX5_air 4 = .ok (.iload_n 1, 1) := by decide +kernel
theorem dX5_air_5 : decode cX5_air 5 = .ok (.invokevirtual 97, 3) := by decide +kernel
theorem dX5_air_8 : decode cX5_air 8 = .ok (.ifCond .ne 5, 3) := by decide +kernel
theorem dX5_air_11 : decode cX5_air 11 = .ok (.iconst (-1), 1) := by decide +kernel
theorem dX5_air_12 : decode cX5_air 12 = .ok (.ireturn, 1) := by decide +kernel
theorem dX5_air_13 : decode cX5_air 13 = .ok (.aload_n 0, 1) := by decide +kernel
theorem dX5_air_14 : decode cX5_air 14 = .ok (.getfield 36, 3) := by decide +kernel
theorem dX5_air_17 : decode cX5_air 17 = .ok (.invokevirtual 153, 3) := by decide +kernel
theorem dX5_air_20 : decode cX5_air 20 = .ok (.ifCond .eq 21, 3) := by decide +kernel
theorem dX5_air_23 : decode cX5_air 23 = .ok (.aload_n 0, 1) := by decide +kernel
theorem dX5_air_24 : decode cX5_air 24 = .ok (.getfield 36, 3) := by decide +kernel
theorem dX5_air_27 : decode cX5_air 27 = .ok (.iload_n 1, 1) := by decide +kernel
theorem dX5_air_28 : decode cX5_air 28 = .ok (.aload_n 0, 1) := by decide +kernel
theorem dX5_air_29 : decode cX5_air 29 = .ok (.getfield 10, 3) := by decide +kernel
theorem dX5_air_32 : decode cX5_air 32 = .ok (.getfield 163, 3) := by decide +kernel
theorem dX5_air_35 : decode cX5_air 35 = .ok (.invokevirtual 166, 3) := by decide +kernel
theorem dX5_air_38 : decode cX5_air 38 = .ok (.goto 5, 3) := by decide +kernel
theorem dX5_air_41 : decode cX5_air 41 = .ok (.bipush (-3), 2) := by decide +kernel
theorem dX5_air_43 : decode cX5_air 43 = .ok (.ireturn, 1) := by decide +kernel
theorem dX5_cost_0 : decode cX5_cost 0 = .ok (.aload_n 0, 1) := by decide +kernel
theorem dX5_cost_1 : decode cX5_cost 1 = .ok (.getfield 36, 3) := by decide +kernel
theorem dX5_cost_4 : decode cX5_cost 4 = .ok (.invokevirtual 153, 3) := by decide +kernel
theorem dX5_cost_7 : decode cX5_cost 7 = .ok (.ifCond .eq 13, 3) := by decide +kernel
theorem dX5_cost_10 : decode cX5_cost 10 = .ok (.aload_n 0, 1) := by decide +kernel
theorem dX5_cost_11 : decode cX5_cost 11 = .ok (.getfield 36, 3) := by decide +kernel
theorem dX5_cost_14 : decode cX5_cost 14 = .ok (.getfield 169, 3) := by decide +kernel
theorem dX5_cost_17 : decode cX5_cost 17 = .ok (.goto 5, 3) := by decide +kernel
theorem dX5_cost_20 : decode cX5_cost 20 = .ok (.bipush (-3), 2) := by decide +kernel
theorem dX5_cost_22 : decode cX5_cost 22 = .ok (.ireturn, 1) := by decide +kernel
theorem dX5_wants_0 : decode cX5_wants 0 = .ok (.aload_n 0, 1) := by decide +kernel
theorem dX5_wants_1 : decode cX5_wants 1 = .ok (.getfield 36, 3) := by decide +kernel
theorem dX5_wants_4 : decode cX5_wants 4 = .ok (.getfield 172, 3) := by decide +kernel
theorem dX5_wants_7 : decode cX5_wants 7 = .ok (.sipush 400, 3) := by decide +kernel
theorem dX5_wants_10 : decode cX5_wants 10 = .ok (.if_icmp .gt 13, 3) := by decide +kernel
theorem dX5_wants_13 : decode cX5_wants 13 = .ok (.aload_n 0, 1) := by decide +kernel
theorem dX5_wants_14 : decode cX5_wants 14 = .ok (.getfield 36, 3) := by decide +kernel
theorem dX5_wants_17 : decode cX5_wants 17 = .ok (.getfield 172, 3) := by decide +kernel
theorem dX5_wants_20 : decode cX5_wants 20 = .ok (.goto 5, 3) := by decide +kernel
theorem dX5_wants_23 : decode cX5_wants 23 = .ok (.bipush (-3), 2) := by decide +kernel
theorem dX5_wants_25 : decode cX5_wants 25 = .ok (.ireturn, 1) := by decide +kernel
theorem dX5_many_0 : decode cX5_many 0 = .ok (.iload_n 1, 1) := by decide +kernel
theorem dX5_many_1 : decode cX5_many 1 = .ok (.tableswitch 159 0 7 #[47, 55, 69, 84, 99, 114, 143, 151], 47) := by decide +kernel
theorem dX5_many_48 : decode cX5_many 48 = .ok (.aload_n 0, 1) := by decide +kernel
theorem dX5_many_49 : decode cX5_many 49 = .ok (.getfield 10, 3) := by decide +kernel
theorem dX5_many_52 : decode cX5_many 52 = .ok (.getfield 86, 3) := by decide +kernel
theorem dX5_many_55 : decode cX5_many 55 = .ok (.ireturn, 1) := by decide +kernel
theorem dX5_many_56 : decode cX5_many 56 = .ok (.bipush 12, 2) := by decide +kernel
theorem dX5_many_58 : decode cX5_many 58 = .ok (.aload_n 0, 1) := by decide +kernel
theorem dX5_many_59 : decode cX5_many 59 = .ok (.getfield 10, 3) := by decide +kernel
theorem dX5_many_62 : decode cX5_many 62 = .ok (.getfield 44, 3) := by decide +kernel
theorem dX5_many_65 : decode cX5_many 65 = .ok (.invokestatic 175, 3) := by decide +kernel
theorem dX5_many_68 : decode cX5_many 68 = .ok (.imul, 1) := by decide +kernel
theorem dX5_many_69 : decode cX5_many 69 = .ok (.ireturn, 1) := by decide +kernel
theorem dX5_many_70 : decode cX5_many 70 = .ok (.aload_n 0, 1) := by decide +kernel
theorem dX5_many_71 : decode cX5_many 71 = .ok (.getfield 26, 3) := by decide +kernel
theorem dX5_many_74 : decode cX5_many 74 = .ok (.aload_n 0, 1) := by decide +kernel
theorem dX5_many_75 : decode cX5_many 75 = .ok (.getfield 10, 3) := by decide +kernel
theorem dX5_many_78 : decode cX5_many 78 = .ok (.getfield 86, 3) := by decide +kernel
theorem dX5_many_81 : decode cX5_many 81 = .ok (.invokevirtual 180, 3) := by decide +kernel
theorem dX5_many_84 : decode cX5_many 84 = .ok (.ireturn, 1) := by decide +kernel
theorem dX5_many_85 : decode cX5_many 85 = .ok (.aload_n 0, 1) := by decide +kernel
theorem dX5_many_86 : decode cX5_many 86 = .ok (.getfield 26, 3) := by decide +kernel
theorem dX5_many_89 : decode cX5_many 89 = .ok (.aload_n 0, 1) := by decide +kernel
theorem dX5_many_90 : decode cX5_many 90 = .ok (.getfield 10, 3) := by decide +kernel
theorem dX5_many_93 : decode cX5_many 93 = .ok (.getfield 86, 3) := by decide +kernel
theorem dX5_many_96 : decode cX5_many 96 = .ok (.invokevirtual 183, 3) := by decide +kernel
theorem dX5_many_99 : decode cX5_many 99 = .ok (.ireturn, 1) := by decide +kernel
theorem dX5_many_100 : decode cX5_many 100 = .ok (.aload_n 0, 1) := by decide +kernel
theorem dX5_many_101 : decode cX5_many 101 = .ok (.getfield 26, 3) := by decide +kernel
theorem dX5_many_104 : decode cX5_many 104 = .ok (.aload_n 0, 1) := by decide +kernel
theorem dX5_many_105 : decode cX5_many 105 = .ok (.getfield 10, 3) := by decide +kernel
theorem dX5_many_108 : decode cX5_many 108 = .ok (.getfield 86, 3) := by decide +kernel
theorem dX5_many_111 : decode cX5_many 111 = .ok (.invokevirtual 186, 3) := by decide +kernel
theorem dX5_many_114 : decode cX5_many 114 = .ok (.ireturn, 1) := by decide +kernel
theorem dX5_many_115 : decode cX5_many 115 = .ok (.aload_n 0, 1) := by decide +kernel
theorem dX5_many_116 : decode cX5_many 116 = .ok (.getfield 36, 3) := by decide +kernel
theorem dX5_many_119 : decode cX5_many 119 = .ok (.invokevirtual 153, 3) := by decide +kernel
theorem dX5_many_122 : decode cX5_many 122 = .ok (.ifCond .eq 20, 3) := by decide +kernel
theorem dX5_many_125 : decode cX5_many 125 = .ok (.aload_n 0, 1) := by decide +kernel
theorem dX5_many_126 : decode cX5_many 126 = .ok (.getfield 36, 3) := by decide +kernel
theorem dX5_many_129 : decode cX5_many 129 = .ok (.aload_n 0, 1) := by decide +kernel
theorem dX5_many_130 : decode cX5_many 130 = .ok (.getfield 36, 3) := by decide +kernel
theorem dX5_many_133 : decode cX5_many 133 = .ok (.getfield 157, 3) := by decide +kernel
theorem dX5_many_136 : decode cX5_many 136 = .ok (.invokevirtual 189, 3) := by decide +kernel
theorem dX5_many_139 : decode cX5_many 139 = .ok (.goto 4, 3) := by decide +kernel
theorem dX5_many_142 : decode cX5_many 142 = .ok (.iconst 0, 1) := by decide +kernel
theorem dX5_many_143 : decode cX5_many 143 = .ok (.ireturn, 1) := by decide +kernel
theorem dX5_many_144 : decode cX5_many 144 = .ok (.aload_n 0, 1) := by decide +kernel
theorem dX5_many_145 : decode cX5_many 145 = .ok (.getfield 10, 3) := by decide +kernel
theorem dX5_many_148 : decode cX5_many 148 = .ok (.getfield 40, 3) := by decide +kernel
theorem dX5_many_151 : decode cX5_many 151 = .ok (.ireturn, 1) := by decide +kernel
theorem dX5_many_152 : decode cX5_many 152 = .ok (.aload_n 0, 1) := by decide +kernel
theorem dX5_many_153 : decode cX5_many 153 = .ok (.getfield 10, 3) := by decide +kernel
theorem dX5_many_156 : decode cX5_many 156 = .ok (.getfield 44, 3) := by decide +kernel
theorem dX5_many_159 : decode cX5_many 159 = .ok (.ireturn, 1) := by decide +kernel
theorem dX5_many_160 : decode cX5_many 160 = .ok (.iconst (-1), 1) := by decide +kernel
theorem dX5_many_161 : decode cX5_many 161 = .ok (.ireturn, 1) := by decide +kernel
theorem dX5_keep_0 : decode cX5_keep 0 = .ok (.aload_n 0, 1) := by decide +kernel
theorem dX5_keep_1 : decode cX5_keep 1 = .ok (.getfield 16, 3) := by decide +kernel
theorem dX5_keep_4 : decode cX5_keep 4 = .ok (.aload_n 0, 1) := by decide +kernel
theorem dX5_keep_5 : decode cX5_keep 5 = .ok (.getfield 10, 3) := by decide +kernel
theorem dX5_keep_8 : decode cX5_keep 8 = .ok (.invokevirtual 192, 3) := by decide +kernel
theorem dX5_keep_11 : decode cX5_keep 11 = .ok (.aload_n 0, 1) := by decide +kernel
theorem dX5_keep_12 : decode cX5_keep 12 = .ok (.iconst 1, 1) := by decide +kernel
theorem dX5_keep_13 : decode cX5_keep 13 = .ok (.putfield 19, 3) := by decide +kernel
theorem dX5_keep_16 : decode cX5_keep 16 = .ok (.iconst 1, 1) := by decide +kernel
theorem dX5_keep_17 : decode cX5_keep 17 = .ok (.ireturn, 1) := by decide +kernel
theorem dX5_back_0 : decode cX5_back 0 = .ok (.aload_n 0, 1) := by decide +kernel
theorem dX5_back_1 : decode cX5_back 1 = .ok (.getfield 19, 3) := by decide +kernel
theorem dX5_back_4 : decode cX5_back 4 = .ok (.ifCond .ne 6, 3) := by decide +kernel
theorem dX5_back_7 : decode cX5_back 7 = .ok (.bipush (-3), 2) := by decide +kernel
theorem dX5_back_9 : decode cX5_back 9 = .ok (.ireturn, 1) := by decide +kernel
theorem dX5_back_10 : decode cX5_back 10 = .ok (.aload_n 0, 1) := by decide +kernel
theorem dX5_back_11 : decode cX5_back 11 = .ok (.getfield 10, 3) := by decide +kernel
theorem dX5_back_14 : decode cX5_back 14 = .ok (.aload_n 0, 1) := by decide +kernel
theorem dX5_back_15 : decode cX5_back 15 = .ok (.getfield 16, 3) := by decide +kernel
theorem dX5_back_18 : decode cX5_back 18 = .ok (.invokevirtual 192, 3) := by decide +kernel
theorem dX5_back_21 : decode cX5_back 21 = .ok (.aload_n 0, 1) := by decide +kernel
theorem dX5_back_22 : decode cX5_back 22 = .ok (.getfield 26, 3) := by decide +kernel
theorem dX5_back_25 : decode cX5_back 25 = .ok (.aload_n 0, 1) := by decide +kernel
theorem dX5_back_26 : decode cX5_back 26 = .ok (.getfield 10, 3) := by decide +kernel
theorem dX5_back_29 : decode cX5_back 29 = .ok (.getfield 40, 3) := by decide +kernel
theorem dX5_back_32 : decode cX5_back 32 = .ok (.aload_n 0, 1) := by decide +kernel
theorem dX5_back_33 : decode cX5_back 33 = .ok (.getfield 10, 3) := by decide +kernel
theorem dX5_back_36 : decode cX5_back 36 = .ok (.getfield 44, 3) := by decide +kernel
theorem dX5_back_39 : decode cX5_back 39 = .ok (.aload_n 0, 1) := by decide +kernel
theorem dX5_back_40 : decode cX5_back 40 = .ok (.getfield 10, 3) := by decide +kernel
theorem dX5_back_43 : decode cX5_back 43 = .ok (.invokevirtual 47, 3) := by decide +kernel
theorem dX5_back_46 : decode cX5_back 46 = .ok (.aload_n 0, 1) := by decide +kernel
theorem dX5_back_47 : decode cX5_back 47 = .ok (.invokevirtual 51, 3) := by decide +kernel
theorem dX5_back_50 : decode cX5_back 50 = .ok (.iconst 1, 1) := by decide +kernel
theorem dX5_back_51 : decode cX5_back 51 = .ok (.ireturn, 1) := by decide +kernel
theorem dX5_isSystem_0 : decode cX5_isSystem 0 = .ok (.iload_n 0, 1) := by decide +kernel
theorem dX5_isSystem_1 : decode cX5_isSystem 1 = .ok (.ifCond .lt 23, 3) := by decide +kernel
theorem dX5_isSystem_4 : decode cX5_isSystem 4 = .ok (.iload_n 0, 1) := by decide +kernel
theorem dX5_isSystem_5 : decode cX5_isSystem 5 = .ok (.bipush 12, 2) := by decide +kernel
theorem dX5_isSystem_7 : decode cX5_isSystem 7 = .ok (.if_icmp .ge 17, 3) := by decide +kernel
theorem dX5_isSystem_10 : decode cX5_isSystem 10 = .ok (.iload_n 1, 1) := by decide +kernel
theorem dX5_isSystem_11 : decode cX5_isSystem 11 = .ok (.ifCond .lt 13, 3) := by decide +kernel
theorem dX5_isSystem_14 : decode cX5_isSystem 14 = .ok (.iload_n 1, 1) := by decide +kernel
theorem dX5_isSystem_15 : decode cX5_isSystem 15 = .ok (.bipush 63, 2) := by decide +kernel
theorem dX5_isSystem_17 : decode cX5_isSystem 17 = .ok (.if_icmp .gt 7, 3) := by decide +kernel
theorem dX5_isSystem_20 : decode cX5_isSystem 20 = .ok (.iconst 1, 1) := by decide +kernel
theorem dX5_isSystem_21 : decode cX5_isSystem 21 = .ok (.goto 4, 3) := by decide +kernel
theorem dX5_isSystem_24 : decode cX5_isSystem 24 = .ok (.iconst 0, 1) := by decide +kernel
theorem dX5_isSystem_25 : decode cX5_isSystem 25 = .ok (.ireturn, 1) := by decide +kernel
theorem dX5_isBeat_0 : decode cX5_isBeat 0 = .ok (.iload_n 0, 1) := by decide +kernel
theorem dX5_isBeat_1 : decode cX5_isBeat 1 = .ok (.ifCond .lt 45, 3) := by decide +kernel
theorem dX5_isBeat_4 : decode cX5_isBeat 4 = .ok (.iload_n 0, 1) := by decide +kernel
theorem dX5_isBeat_5 : decode cX5_isBeat 5 = .ok (.sipush 4095, 3) := by decide +kernel
theorem dX5_isBeat_8 : decode cX5_isBeat 8 = .ok (.if_icmp .gt 38, 3) := by decide +kernel
theorem dX5_isBeat_11 : decode cX5_isBeat 11 = .ok (.iload_n 1, 1) := by decide +kernel
theorem dX5_isBeat_12 : decode cX5_isBeat 12 = .ok (.iconst (-1), 1) := by decide +kernel
theorem dX5_isBeat_13 : decode cX5_isBeat 13 = .ok (.if_icmp .lt 33, 3) := by decide +kernel
theorem dX5_isBeat_16 : decode cX5_isBeat 16 = .ok (.iload_n 1, 1) := by decide +kernel
theorem dX5_isBeat_17 : decode cX5_isBeat 17 = .ok (.bipush 12, 2) := by decide +kernel
theorem dX5_isBeat_19 : decode cX5_isBeat 19 = .ok (.if_icmp .ge 27, 3) := by decide +kernel
theorem dX5_isBeat_22 : decode cX5_isBeat 22 = .ok (.iload_n 2, 1) := by decide +kernel
theorem dX5_isBeat_23 : decode cX5_isBeat 23 = .ok (.iconst 1, 1) := by decide +kernel
theorem dX5_isBeat_24 : decode cX5_isBeat 24 = .ok (.if_icmp .lt 22, 3) := by decide +kernel
theorem dX5_isBeat_27 : decode cX5_isBeat 27 = .ok (.iload_n 2, 1) := by decide +kernel
theorem dX5_isBeat_28 : decode cX5_isBeat 28 = .ok (.bipush 8, 2) := by decide +kernel
theorem dX5_isBeat_30 : decode cX5_isBeat 30 = .ok (.if_icmp .gt 16, 3) := by decide +kernel
theorem dX5_isBeat_33 : decode cX5_isBeat 33 = .ok (.iload_n 3, 1) := by decide +kernel
theorem dX5_isBeat_34 : decode cX5_isBeat 34 = .ok (.ifCond .lt 12, 3) := by decide +kernel
theorem dX5_isBeat_37 : decode cX5_isBeat 37 = .ok (.iload_n 3, 1) := by decide +kernel
theorem dX5_isBeat_38 : decode cX5_isBeat 38 = .ok (.iconst 3, 1) := by decide +kernel
theorem dX5_isBeat_39 : decode cX5_isBeat 39 = .ok (.if_icmp .gt 7, 3) := by decide +kernel
theorem dX5_isBeat_42 : decode cX5_isBeat 42 = .ok (.iconst 1, 1) := by decide +kernel
theorem dX5_isBeat_43 : decode cX5_isBeat 43 = .ok (.goto 4, 3) := by decide +kernel
theorem dX5_isBeat_46 : decode cX5_isBeat 46 = .ok (.iconst 0, 1) := by decide +kernel
theorem dX5_isBeat_47 : decode cX5_isBeat 47 = .ok (.ireturn, 1) := by decide +kernel
theorem dX5_rootOf_0 : decode cX5_rootOf 0 = .ok (.iload_n 0, 1) := by decide +kernel
theorem dX5_rootOf_1 : decode cX5_rootOf 1 = .ok (.bipush 7, 2) := by decide +kernel
theorem dX5_rootOf_3 : decode cX5_rootOf 3 = .ok (.iload_n 1, 1) := by decide +kernel
theorem dX5_rootOf_4 : decode cX5_rootOf 4 = .ok (.imul, 1) := by decide +kernel
theorem dX5_rootOf_5 : decode cX5_rootOf 5 = .ok (.iadd, 1) := by decide +kernel
theorem dX5_rootOf_6 : decode cX5_rootOf 6 = .ok (.bipush 12, 2) := by decide +kernel
theorem dX5_rootOf_8 : decode cX5_rootOf 8 = .ok (.irem, 1) := by decide +kernel
theorem dX5_rootOf_9 : decode cX5_rootOf 9 = .ok (.ireturn, 1) := by decide +kernel
theorem dX5_setRegister_0 : decode cX5_setRegister 0 = .ok (.iload_n 1, 1) := by decide +kernel
theorem dX5_setRegister_1 : decode cX5_setRegister 1 = .ok (.iconst 1, 1) := by decide +kernel
theorem dX5_setRegister_2 : decode cX5_setRegister 2 = .ok (.if_icmp .lt 8, 3) := by decide +kernel
theorem dX5_setRegister_5 : decode cX5_setRegister 5 = .ok (.iload_n 1, 1) := by decide +kernel
theorem dX5_setRegister_6 : decode cX5_setRegister 6 = .ok (.iconst 3, 1) := by decide +kernel
theorem dX5_setRegister_7 : decode cX5_setRegister 7 = .ok (.if_icmp .le 5, 3) := by decide +kernel
theorem dX5_setRegister_10 : decode cX5_setRegister 10 = .ok (.iconst (-1), 1) := by decide +kernel
theorem dX5_setRegister_11 : decode cX5_setRegister 11 = .ok (.ireturn, 1) := by decide +kernel
theorem dX5_setRegister_12 : decode cX5_setRegister 12 = .ok (.aload_n 0, 1) := by decide +kernel
theorem dX5_setRegister_13 : decode cX5_setRegister 13 = .ok (.getfield 10, 3) := by decide +kernel
theorem dX5_setRegister_16 : decode cX5_setRegister 16 = .ok (.getfield 196, 3) := by decide +kernel
theorem dX5_setRegister_19 : decode cX5_setRegister 19 = .ok (.istore_n 2, 1) := by decide +kernel
theorem dX5_setRegister_20 : decode cX5_setRegister 20 = .ok (.aload_n 0, 1) := by decide +kernel
theorem dX5_setRegister_21 : decode cX5_setRegister 21 = .ok (.getfield 10, 3) := by decide +kernel
theorem dX5_setRegister_24 : decode cX5_setRegister 24 = .ok (.iload_n 1, 1) := by decide +kernel
theorem dX5_setRegister_25 : decode cX5_setRegister 25 = .ok (.putfield 196, 3) := by decide +kernel
theorem dX5_setRegister_28 : decode cX5_setRegister 28 = .ok (.aload_n 0, 1) := by decide +kernel
theorem dX5_setRegister_29 : decode cX5_setRegister 29 = .ok (.invokevirtual 199, 3) := by decide +kernel
theorem dX5_setRegister_32 : decode cX5_setRegister 32 = .ok (.iload_n 2, 1) := by decide +kernel
theorem dX5_setRegister_33 : decode cX5_setRegister 33 = .ok (.ireturn, 1) := by decide +kernel
theorem dX5_setRoom_0 : decode cX5_setRoom 0 = .ok (.iload_n 1, 1) := by decide +kernel
theorem dX5_setRoom_1 : decode cX5_setRoom 1 = .ok (.iconst 1, 1) := by decide +kernel
theorem dX5_setRoom_2 : decode cX5_setRoom 2 = .ok (.if_icmp .lt 21, 3) := by decide +kernel
theorem dX5_setRoom_5 : decode cX5_setRoom 5 = .ok (.iload_n 1, 1) := by decide +kernel
theorem dX5_setRoom_6 : decode cX5_setRoom 6 = .ok (.sipush 400, 3) := by decide +kernel
theorem dX5_setRoom_9 : decode cX5_setRoom 9 = .ok (.if_icmp .gt 14, 3) := by decide +kernel
theorem dX5_setRoom_12 : decode cX5_setRoom 12 = .ok (.iload_n 1, 1) := by decide +kernel
theorem dX5_setRoom_13 : decode cX5_setRoom 13 = .ok (.aload_n 0, 1) := by decide +kernel
theorem dX5_setRoom_14 : decode cX5_setRoom 14 = .ok (.getfield 10, 3) := by decide +kernel
theorem dX5_setRoom_17 : decode cX5_setRoom 17 = .ok (.getfield 163, 3) := by decide +kernel
theorem dX5_setRoom_20 : decode cX5_setRoom 20 = .ok (.if_icmp .ge 5, 3) := by decide +kernel
theorem dX5_setRoom_23 : decode cX5_setRoom 23 = .ok (.iconst (-1), 1) := by decide +kernel
theorem dX5_setRoom_24 : decode cX5_setRoom 24 = .ok (.ireturn, 1) := by decide +kernel
theorem dX5_setRoom_25 : decode cX5_setRoom 25 = .ok (.aload_n 0, 1) := by decide +kernel
theorem dX5_setRoom_26 : decode cX5_setRoom 26 = .ok (.getfield 10, 3) := by decide +kernel
theorem dX5_setRoom_29 : decode cX5_setRoom 29 = .ok (.getfield 202, 3) := by decide +kernel
theorem dX5_setRoom_32 : decode cX5_setRoom 32 = .ok (.istore_n 2, 1) := by decide +kernel
theorem dX5_setRoom_33 : decode cX5_setRoom 33 = .ok (.aload_n 0, 1) := by decide +kernel
theorem dX5_setRoom_34 : decode cX5_setRoom 34 = .ok (.getfield 10, 3) := by decide +kernel
theorem dX5_setRoom_37 : decode cX5_setRoom 37 = .ok (.iload_n 1, 1) := by decide +kernel
theorem dX5_setRoom_38 : decode cX5_setRoom 38 = .ok (.putfield 202, 3) := by decide +kernel
theorem dX5_setRoom_41 : decode cX5_setRoom 41 = .ok (.aload_n 0, 1) := by decide +kernel
theorem dX5_setRoom_42 : decode cX5_setRoom 42 = .ok (.invokevirtual 199, 3) := by decide +kernel
theorem dX5_setRoom_45 : decode cX5_setRoom 45 = .ok (.iload_n 2, 1) := by decide +kernel
theorem dX5_setRoom_46 : decode cX5_setRoom 46 = .ok (.ireturn, 1) := by decide +kernel
theorem dX5_setStart_0 : decode cX5_setStart 0 = .ok (.iload_n 1, 1) := by decide +kernel
theorem dX5_setStart_1 : decode cX5_setStart 1 = .ok (.ifCond .lt 14, 3) := by decide +kernel
theorem dX5_setStart_4 : decode cX5_setStart 4 = .ok (.iload_n 1, 1) := by decide +kernel
theorem dX5_setStart_5 : decode cX5_setStart 5 = .ok (.aload_n 0, 1) := by decide +kernel
theorem dX5_setStart_6 : decode cX5_setStart 6 = .ok (.getfield 10, 3) := by decide +kernel
theorem dX5_setStart_9 : decode cX5_setStart 9 = .ok (.getfield 202, 3) := by decide +kernel
theorem dX5_setStart_12 : decode cX5_setStart 12 = .ok (.if_icmp .le 5, 3) := by decide +kernel
theorem dX5_setStart_15 : decode cX5_setStart 15 = .ok (.iconst (-1), 1) := by decide +kernel
theorem dX5_setStart_16 : decode cX5_setStart 16 = .ok (.ireturn, 1) := by decide +kernel
theorem dX5_setStart_17 : decode cX5_setStart 17 = .ok (.aload_n 0, 1) := by decide +kernel
theorem dX5_setStart_18 : decode cX5_setStart 18 = .ok (.getfield 10, 3) := by decide +kernel
theorem dX5_setStart_21 : decode cX5_setStart 21 = .ok (.getfield 163, 3) := by decide +kernel
theorem dX5_setStart_24 : decode cX5_setStart 24 = .ok (.istore_n 2, 1) := by decide +kernel
theorem dX5_setStart_25 : decode cX5_setStart 25 = .ok (.aload_n 0, 1) := by decide +kernel
theorem dX5_setStart_26 : decode cX5_setStart 26 = .ok (.getfield 10, 3) := by decide +kernel
theorem dX5_setStart_29 : decode cX5_setStart 29 = .ok (.iload_n 1, 1) := by decide +kernel
theorem dX5_setStart_30 : decode cX5_setStart 30 = .ok (.putfield 163, 3) := by decide +kernel
theorem dX5_setStart_33 : decode cX5_setStart 33 = .ok (.aload_n 0, 1) := by decide +kernel
theorem dX5_setStart_34 : decode cX5_setStart 34 = .ok (.invokevirtual 199, 3) := by decide +kernel
theorem dX5_setStart_37 : decode cX5_setStart 37 = .ok (.iload_n 2, 1) := by decide +kernel
theorem dX5_setStart_38 : decode cX5_setStart 38 = .ok (.ireturn, 1) := by decide +kernel
theorem dX5_settleBeat_0 : decode cX5_settleBeat 0 = .ok (.aload_n 0, 1) := by decide +kernel
theorem dX5_settleBeat_1 : decode cX5_settleBeat 1 = .ok (.getfield 26, 3) := by decide +kernel
theorem dX5_settleBeat_4 : decode cX5_settleBeat 4 = .ok (.getfield 113, 3) := by decide +kernel
theorem dX5_settleBeat_7 : decode cX5_settleBeat 7 = .ok (.iload_n 1, 1) := by decide +kernel
theorem dX5_settleBeat_8 : decode cX5_settleBeat 8 = .ok (.aaload, 1) := by decide +kernel
theorem dX5_settleBeat_9 : decode cX5_settleBeat 9 = .ok (.aload_n 0, 1) := by decide +kernel
theorem dX5_settleBeat_10 : decode cX5_settleBeat 10 = .ok (.getfield 26, 3) := by decide +kernel
theorem dX5_settleBeat_13 : decode cX5_settleBeat 13 = .ok (.getfield 58, 3) := by decide +kernel
theorem dX5_settleBeat_16 : decode cX5_settleBeat 16 = .ok (.aload_n 0, 1) := by decide +kernel
theorem dX5_settleBeat_17 : decode cX5_settleBeat 17 = .ok (.getfield 10, 3) := by decide +kernel
theorem dX5_settleBeat_20 : decode cX5_settleBeat 20 = .ok (.getfield 101, 3) := by decide +kernel
theorem dX5_settleBeat_23 : decode cX5_settleBeat 23 = .ok (.iload_n 1, 1) := by decide +kernel
theorem dX5_settleBeat_24 : decode cX5_settleBeat 24 = .ok (.iaload, 1) := by decide +kernel
theorem dX5_settleBeat_25 : decode cX5_settleBeat 25 = .ok (.aload_n 0, 1) := by decide +kernel
theorem dX5_settleBeat_26 : decode cX5_settleBeat 26 = .ok (.getfield 10, 3) := by decide +kernel
theorem dX5_settleBeat_29 : decode cX5_settleBeat 29 = .ok (.getfield 104, 3) := by decide +kernel
theorem dX5_settleBeat_32 : decode cX5_settleBeat 32 = .ok (.iload_n 1, 1) := by decide +kernel
theorem dX5_settleBeat_33 : decode cX5_settleBeat 33 = .ok (.iaload, 1) := by decide +kernel
theorem dX5_settleBeat_34 : decode cX5_settleBeat 34 = .ok (.invokevirtual 205, 3) := by decide +kernel
theorem dX5_settleBeat_37 : decode cX5_settleBeat 37 = .ok (.aload_n 0, 1) := by decide +kernel
theorem dX5_settleBeat_38 : decode cX5_settleBeat 38 = .ok (.invokevirtual 51, 3) := by decide +kernel
theorem dX5_settleBeat_41 : decode cX5_settleBeat 41 = .ok (.return_, 1) := by decide +kernel
theorem dX5_settleHand_0 : decode cX5_settleHand 0 = .ok (.aload_n 0, 1) := by decide +kernel
theorem dX5_settleHand_1 : decode cX5_settleHand 1 = .ok (.getfield 26, 3) := by decide +kernel
theorem dX5_settleHand_4 : decode cX5_settleHand 4 = .ok (.aload_n 0, 1) := by decide +kernel
theorem dX5_settleHand_5 : decode cX5_settleHand 5 = .ok (.getfield 10, 3) := by decide +kernel
theorem dX5_settleHand_8 : decode cX5_settleHand 8 = .ok (.getfield 86, 3) := by decide +kernel
theorem dX5_settleHand_11 : decode cX5_settleHand 11 = .ok (.invokevirtual 143, 3) := by decide +kernel
theorem dX5_settleHand_14 : decode cX5_settleHand 14 = .ok (.aload_n 0, 1) := by decide +kernel
theorem dX5_settleHand_15 : decode cX5_settleHand 15 = .ok (.invokevirtual 199, 3) := by decide +kernel
theorem dX5_settleHand_18 : decode cX5_settleHand 18 = .ok (.return_, 1) := by decide +kernel
theorem dX5_settleBellows_0 : decode cX5_settleBellows 0 = .ok (.aload_n 0, 1) := by decide +kernel
theorem dX5_settleBellows_1 : decode cX5_settleBellows 1 = .ok (.getfield 36, 3) := by decide +kernel
theorem dX5_settleBellows_4 : decode cX5_settleBellows 4 = .ok (.aload_n 0, 1) := by decide +kernel
theorem dX5_settleBellows_5 : decode cX5_settleBellows 5 = .ok (.getfield 10, 3) := by decide +kernel
theorem dX5_settleBellows_8 : decode cX5_settleBellows 8 = .ok (.aload_n 0, 1) := by decide +kernel
theorem dX5_settleBellows_9 : decode cX5_settleBellows 9 = .ok (.getfield 26, 3) := by decide +kernel
theorem dX5_settleBellows_12 : decode cX5_settleBellows 12 = .ok (.invokevirtual 209, 3) := by decide +kernel
theorem dX5_settleBellows_15 : decode cX5_settleBellows 15 = .ok (.aload_n 0, 1) := by decide +kernel
theorem dX5_settleBellows_16 : decode cX5_settleBellows 16 = .ok (.getfield 36, 3) := by decide +kernel
theorem dX5_settleBellows_19 : decode cX5_settleBellows 19 = .ok (.aload_n 0, 1) := by decide +kernel
theorem dX5_settleBellows_20 : decode cX5_settleBellows 20 = .ok (.getfield 10, 3) := by decide +kernel
theorem dX5_settleBellows_23 : decode cX5_settleBellows 23 = .ok (.getfield 163, 3) := by decide +kernel
theorem dX5_settleBellows_26 : decode cX5_settleBellows 26 = .ok (.aload_n 0, 1) := by decide +kernel
theorem dX5_settleBellows_27 : decode cX5_settleBellows 27 = .ok (.getfield 10, 3) := by decide +kernel
theorem dX5_settleBellows_30 : decode cX5_settleBellows 30 = .ok (.getfield 202, 3) := by decide +kernel
theorem dX5_settleBellows_33 : decode cX5_settleBellows 33 = .ok (.invokevirtual 213, 3) := by decide +kernel
theorem dX5_settleBellows_36 : decode cX5_settleBellows 36 = .ok (.return_, 1) := by decide +kernel
theorem dJ6_bitCount_0f7a4_0 : decode cJ6_bitCount_0f7a4 0 = .ok (.iload_n 0, 1) := by decide +kernel
theorem dJ6_bitCount_0f7a4_1 : decode cJ6_bitCount_0f7a4 1 = .ok (.iload_n 0, 1) := by decide +kernel
theorem dJ6_bitCount_0f7a4_2 : decode cJ6_bitCount_0f7a4 2 = .ok (.iconst 1, 1) := by decide +kernel
theorem dJ6_bitCount_0f7a4_3 : decode cJ6_bitCount_0f7a4 3 = .ok (.iushr, 1) := by decide +kernel
theorem dJ6_bitCount_0f7a4_4 : decode cJ6_bitCount_0f7a4 4 = .ok (.ldc_w 265, 3) := by decide +kernel
theorem dJ6_bitCount_0f7a4_7 : decode cJ6_bitCount_0f7a4 7 = .ok (.iand, 1) := by decide +kernel
theorem dJ6_bitCount_0f7a4_8 : decode cJ6_bitCount_0f7a4 8 = .ok (.isub, 1) := by decide +kernel
theorem dJ6_bitCount_0f7a4_9 : decode cJ6_bitCount_0f7a4 9 = .ok (.istore_n 0, 1) := by decide +kernel
theorem dJ6_bitCount_0f7a4_10 : decode cJ6_bitCount_0f7a4 10 = .ok (.iload_n 0, 1) := by decide +kernel
theorem dJ6_bitCount_0f7a4_11 : decode cJ6_bitCount_0f7a4 11 = .ok (.ldc_w 266, 3) := by decide +kernel
theorem dJ6_bitCount_0f7a4_14 : decode cJ6_bitCount_0f7a4 14 = .ok (.iand, 1) := by decide +kernel
theorem dJ6_bitCount_0f7a4_15 : decode cJ6_bitCount_0f7a4 15 = .ok (.iload_n 0, 1) := by decide +kernel
theorem dJ6_bitCount_0f7a4_16 : decode cJ6_bitCount_0f7a4 16 = .ok (.iconst 2, 1) := by decide +kernel
theorem dJ6_bitCount_0f7a4_17 : decode cJ6_bitCount_0f7a4 17 = .ok (.iushr, 1) := by decide +kernel
theorem dJ6_bitCount_0f7a4_18 : decode cJ6_bitCount_0f7a4 18 = .ok (.ldc_w 266, 3) := by decide +kernel
theorem dJ6_bitCount_0f7a4_21 : decode cJ6_bitCount_0f7a4 21 = .ok (.iand, 1) := by decide +kernel
theorem dJ6_bitCount_0f7a4_22 : decode cJ6_bitCount_0f7a4 22 = .ok (.iadd, 1) := by decide +kernel
theorem dJ6_bitCount_0f7a4_23 : decode cJ6_bitCount_0f7a4 23 = .ok (.istore_n 0, 1) := by decide +kernel
theorem dJ6_bitCount_0f7a4_24 : decode cJ6_bitCount_0f7a4 24 = .ok (.iload_n 0, 1) := by decide +kernel
theorem dJ6_bitCount_0f7a4_25 : decode cJ6_bitCount_0f7a4 25 = .ok (.iload_n 0, 1) := by decide +kernel
theorem dJ6_bitCount_0f7a4_26 : decode cJ6_bitCount_0f7a4 26 = .ok (.iconst 4, 1) := by decide +kernel
theorem dJ6_bitCount_0f7a4_27 : decode cJ6_bitCount_0f7a4 27 = .ok (.iushr, 1) := by decide +kernel
theorem dJ6_bitCount_0f7a4_28 : decode cJ6_bitCount_0f7a4 28 = .ok (.iadd, 1) := by decide +kernel
theorem dJ6_bitCount_0f7a4_29 : decode cJ6_bitCount_0f7a4 29 = .ok (.ldc_w 267, 3) := by decide +kernel
theorem dJ6_bitCount_0f7a4_32 : decode cJ6_bitCount_0f7a4 32 = .ok (.iand, 1) := by decide +kernel
theorem dJ6_bitCount_0f7a4_33 : decode cJ6_bitCount_0f7a4 33 = .ok (.istore_n 0, 1) := by decide +kernel
theorem dJ6_bitCount_0f7a4_34 : decode cJ6_bitCount_0f7a4 34 = .ok (.iload_n 0, 1) := by decide +kernel
theorem dJ6_bitCount_0f7a4_35 : decode cJ6_bitCount_0f7a4 35 = .ok (.iload_n 0, 1) := by decide +kernel
theorem dJ6_bitCount_0f7a4_36 : decode cJ6_bitCount_0f7a4 36 = .ok (.bipush 8, 2) := by decide +kernel
theorem dJ6_bitCount_0f7a4_38 : decode cJ6_bitCount_0f7a4 38 = .ok (.iushr, 1) := by decide +kernel
theorem dJ6_bitCount_0f7a4_39 : decode cJ6_bitCount_0f7a4 39 = .ok (.iadd, 1) := by decide +kernel
theorem dJ6_bitCount_0f7a4_40 : decode cJ6_bitCount_0f7a4 40 = .ok (.istore_n 0, 1) := by decide +kernel
theorem dJ6_bitCount_0f7a4_41 : decode cJ6_bitCount_0f7a4 41 = .ok (.iload_n 0, 1) := by decide +kernel
theorem dJ6_bitCount_0f7a4_42 : decode cJ6_bitCount_0f7a4 42 = .ok (.iload_n 0, 1) := by decide +kernel
theorem dJ6_bitCount_0f7a4_43 : decode cJ6_bitCount_0f7a4 43 = .ok (.bipush 16, 2) := by decide +kernel
theorem dJ6_bitCount_0f7a4_45 : decode cJ6_bitCount_0f7a4 45 = .ok (.iushr, 1) := by decide +kernel
theorem dJ6_bitCount_0f7a4_46 : decode cJ6_bitCount_0f7a4 46 = .ok (.iadd, 1) := by decide +kernel
theorem dJ6_bitCount_0f7a4_47 : decode cJ6_bitCount_0f7a4 47 = .ok (.istore_n 0, 1) := by decide +kernel
theorem dJ6_bitCount_0f7a4_48 : decode cJ6_bitCount_0f7a4 48 = .ok (.iload_n 0, 1) := by decide +kernel
theorem dJ6_bitCount_0f7a4_49 : decode cJ6_bitCount_0f7a4 49 = .ok (.bipush 63, 2) := by decide +kernel
theorem dJ6_bitCount_0f7a4_51 : decode cJ6_bitCount_0f7a4 51 = .ok (.iand, 1) := by decide +kernel
theorem dJ6_bitCount_0f7a4_52 : decode cJ6_bitCount_0f7a4 52 = .ok (.ireturn, 1) := by decide +kernel
theorem dJ9_abs_0f7a4_0 : decode cJ9_abs_0f7a4 0 = .ok (.iload_n 0, 1) := by decide +kernel
theorem dJ9_abs_0f7a4_1 : decode cJ9_abs_0f7a4 1 = .ok (.ifCond .ge 8, 3) := by decide +kernel
theorem dJ9_abs_0f7a4_4 : decode cJ9_abs_0f7a4 4 = .ok (.iload_n 0, 1) := by decide +kernel
theorem dJ9_abs_0f7a4_5 : decode cJ9_abs_0f7a4 5 = .ok (.ineg, 1) := by decide +kernel
theorem dJ9_abs_0f7a4_6 : decode cJ9_abs_0f7a4 6 = .ok (.goto 4, 3) := by decide +kernel
theorem dJ9_abs_0f7a4_9 : decode cJ9_abs_0f7a4 9 = .ok (.iload_n 0, 1) := by decide +kernel
theorem dJ9_abs_0f7a4_10 : decode cJ9_abs_0f7a4 10 = .ok (.ireturn, 1) := by decide +kernel
theorem dJ9_max_7cf53_0 : decode cJ9_max_7cf53 0 = .ok (.iload_n 0, 1) := by decide +kernel
theorem dJ9_max_7cf53_1 : decode cJ9_max_7cf53 1 = .ok (.iload_n 1, 1) := by decide +kernel
theorem dJ9_max_7cf53_2 : decode cJ9_max_7cf53 2 = .ok (.if_icmp .lt 7, 3) := by decide +kernel
theorem dJ9_max_7cf53_5 : decode cJ9_max_7cf53 5 = .ok (.iload_n 0, 1) := by decide +kernel
theorem dJ9_max_7cf53_6 : decode cJ9_max_7cf53 6 = .ok (.goto 4, 3) := by decide +kernel
theorem dJ9_max_7cf53_9 : decode cJ9_max_7cf53 9 = .ok (.iload_n 1, 1) := by decide +kernel
theorem dJ9_max_7cf53_10 : decode cJ9_max_7cf53 10 = .ok (.ireturn, 1) := by decide +kernel
theorem dJ9_min_7cf53_0 : decode cJ9_min_7cf53 0 = .ok (.iload_n 0, 1) := by decide +kernel
theorem dJ9_min_7cf53_1 : decode cJ9_min_7cf53 1 = .ok (.iload_n 1, 1) := by decide +kernel
theorem dJ9_min_7cf53_2 : decode cJ9_min_7cf53 2 = .ok (.if_icmp .gt 7, 3) := by decide +kernel
theorem dJ9_min_7cf53_5 : decode cJ9_min_7cf53 5 = .ok (.iload_n 0, 1) := by decide +kernel
theorem dJ9_min_7cf53_6 : decode cJ9_min_7cf53 6 = .ok (.goto 4, 3) := by decide +kernel
theorem dJ9_min_7cf53_9 : decode cJ9_min_7cf53 9 = .ok (.iload_n 1, 1) := by decide +kernel
theorem dJ9_min_7cf53_10 : decode cJ9_min_7cf53 10 = .ok (.ireturn, 1) := by decide +kernel
end
section
theorem dX6_init_0 : decode cX6_init 0 = .ok (.aload_n 0, 1) := by decide +kernel
theorem dX6_init_1 : decode cX6_init 1 = .ok (.invokespecial 1, 3) := by decide +kernel
theorem dX6_init_4 : decode cX6_init 4 = .ok (.aload_n 0, 1) := by decide +kernel
theorem dX6_init_5 : decode cX6_init 5 = .ok (.bipush 6, 2) := by decide +kernel
theorem dX6_init_7 : decode cX6_init 7 = .ok (.newarray .int, 2) := by decide +kernel
theorem dX6_init_9 : decode cX6_init 9 = .ok (.dup, 1) := by decide +kernel
theorem dX6_init_10 : decode cX6_init 10 = .ok (.iconst 0, 1) := by decide +kernel
theorem dX6_init_11 : decode cX6_init 11 = .ok (.iconst 0, 1) := by decide +kernel
theorem dX6_init_12 : decode cX6_init 12 = .ok (.iastore, 1) := by decide +kernel
theorem dX6_init_13 : decode cX6_init 13 = .ok (.dup, 1) := by decide +kernel
theorem dX6_init_14 : decode cX6_init 14 = .ok (.iconst 1, 1) := by decide +kernel
theorem dX6_init_15 : decode cX6_init 15 = .ok (.bipush 63, 2) := by decide +kernel
theorem dX6_init_17 : decode cX6_init 17 = .ok (.iastore, 1) := by decide +kernel
theorem dX6_init_18 : decode cX6_init 18 = .ok (.dup, 1) := by decide +kernel
theorem dX6_init_19 : decode cX6_init 19 = .ok (.iconst 2, 1) := by decide +kernel
theorem dX6_init_20 : decode cX6_init 20 = .ok (.iconst 1, 1) := by decide +kernel
theorem dX6_init_21 : decode cX6_init 21 = .ok (.iastore, 1) := by decide +kernel
theorem dX6_init_22 : decode cX6_init 22 = .ok (.dup, 1) := by decide +kernel
theorem dX6_init_23 : decode cX6_init 23 = .ok (.iconst 3, 1) := by decide +kernel
theorem dX6_init_24 : decode cX6_init 24 = .ok (.bipush 100, 2) := by decide +kernel
theorem dX6_init_26 : decode cX6_init 26 = .ok (.iastore, 1) := by decide +kernel
theorem dX6_init_27 : decode cX6_init 27 = .ok (.dup, 1) := by decide +kernel
theorem dX6_init_28 : decode cX6_init 28 = .ok (.iconst 4, 1) := by decide +kernel
theorem dX6_init_29 : decode cX6_init 29 = .ok (.iconst 0, 1) := by decide +kernel
theorem dX6_init_30 : decode cX6_init 30 = .ok (.iastore, 1) := by decide +kernel
theorem dX6_init_31 : decode cX6_init 31 = .ok (.dup, 1) := by decide +kernel
theorem dX6_init_32 : decode cX6_init 32 = .ok (.iconst 5, 1) := by decide +kernel
theorem dX6_init_33 : decode cX6_init 33 = .ok (.iconst 0, 1) := by decide +kernel
theorem dX6_init_34 : decode cX6_init 34 = .ok (.iastore, 1) := by decide +kernel
theorem dX6_init_35 : decode cX6_init 35 = .ok (.putfield 7, 3) := by decide +kernel
theorem dX6_init_38 : decode cX6_init 38 = .ok (.aload_n 0, 1) := by decide +kernel
theorem dX6_init_39 : decode cX6_init 39 = .ok (.bipush 32, 2) := by decide +kernel
theorem dX6_init_41 : decode cX6_init 41 = .ok (.newarray .int, 2) := by decide +kernel
theorem dX6_init_43 : decode cX6_init 43 = .ok (.putfield 13, 3) := by decide +kernel
theorem dX6_init_46 : decode cX6_init 46 = .ok (.aload_n 0, 1) := by decide +kernel
theorem dX6_init_47 : decode cX6_init 47 = .ok (.bipush 38, 2) := by decide +kernel
theorem dX6_init_49 : decode cX6_init 49 = .ok (.newarray .int, 2) := by decide +kernel
theorem dX6_init_51 : decode cX6_init 51 = .ok (.putfield 16, 3) := by decide +kernel
theorem dX6_init_54 : decode cX6_init 54 = .ok (.aload_n 0, 1) := by decide +kernel
theorem dX6_init_55 : decode cX6_init 55 = .ok (.bipush 8, 2) := by decide +kernel
theorem dX6_init_57 : decode cX6_init 57 = .ok (.newarray .int, 2) := by decide +kernel
theorem dX6_init_59 : decode cX6_init 59 = .ok (.putfield 19, 3) := by decide +kernel
theorem dX6_init_62 : decode cX6_init 62 = .ok (.aload_n 0, 1) := by decide +kernel
theorem dX6_init_63 : decode cX6_init 63 = .ok (.bipush 8, 2) := by decide +kernel
theorem dX6_init_65 : decode cX6_init 65 = .ok (.newarray .int, 2) := by decide +kernel
theorem dX6_init_67 : decode cX6_init 67 = .ok (.putfield 22, 3) := by decide +kernel
theorem dX6_init_70 : decode cX6_init 70 = .ok (.aload_n 0, 1) := by decide +kernel
theorem dX6_init_71 : decode cX6_init 71 = .ok (.bipush 8, 2) := by decide +kernel
theorem dX6_init_73 : decode cX6_init 73 = .ok (.newarray .int, 2) := by decide +kernel
theorem dX6_init_75 : decode cX6_init 75 = .ok (.putfield 25, 3) := by decide +kernel
theorem dX6_init_78 : decode cX6_init 78 = .ok (.aload_n 0, 1) := by decide +kernel
theorem dX6_init_79 : decode cX6_init 79 = .ok (.bipush 8, 2) := by decide +kernel
theorem dX6_init_81 : decode cX6_init 81 = .ok (.newarray .int, 2) := by decide +kernel
theorem dX6_init_83 : decode cX6_init 83 = .ok (.putfield 28, 3) := by decide +kernel
theorem dX6_init_86 : decode cX6_init 86 = .ok (.aload_n 0, 1) := by decide +kernel
theorem dX6_init_87 : decode cX6_init 87 = .ok (.sipush 480, 3) := by decide +kernel
theorem dX6_init_90 : decode cX6_init 90 = .ok (.newarray .int, 2) := by decide +kernel
theorem dX6_init_92 : decode cX6_init 92 = .ok (.putfield 31, 3) := by decide +kernel
theorem dX6_init_95 : decode cX6_init 95 = .ok (.aload_n 0, 1) := by decide +kernel
theorem dX6_init_96 : decode cX6_init 96 = .ok (.iconst 3, 1) := by decide +kernel
theorem dX6_init_97 : decode cX6_init 97 = .ok (.newarray .int, 2) := by decide +kernel
theorem dX6_init_99 : decode cX6_init 99 = .ok (.putfield 34, 3) := by decide +kernel
theorem dX6_init_102 : decode cX6_init 102 = .ok (.aload_n 0, 1) := by decide +kernel
theorem dX6_init_103 : decode cX6_init 103 = .ok (.sipush 160, 3) := by decide +kernel
theorem dX6_init_106 : decode cX6_init 106 = .ok (.newarray .int, 2) := by decide +kernel
theorem dX6_init_108 : decode cX6_init 108 = .ok (.putfield 37, 3) := by decide +kernel
theorem dX6_init_111 : decode cX6_init 111 = .ok (.aload_n 0, 1) := by decide +kernel
theorem dX6_init_112 : decode cX6_init 112 = .ok (.bipush 8, 2) := by decide +kernel
theorem dX6_init_114 : decode cX6_init 114 = .ok (.newarray .int, 2) := by decide +kernel
theorem dX6_init_116 : decode cX6_init 116 = .ok (.putfield 40, 3) := by decide +kernel
theorem dX6_init_119 : decode cX6_init 119 = .ok (.aload_n 0, 1) := by decide +kernel
theorem dX6_init_120 : decode cX6_init 120 = .ok (.bipush 24, 2) := by decide +kernel
theorem dX6_init_122 : decode cX6_init 122 = .ok (.newarray .int, 2) := by decide +kernel
theorem dX6_init_124 : decode cX6_init 124 = .ok (.putfield 43, 3) := by decide +kernel
theorem dX6_init_127 : decode cX6_init 127 = .ok (.aload_n 0, 1) := by decide +kernel
theorem dX6_init_128 : decode cX6_init 128 = .ok (.bipush 8, 2) := by decide +kernel
theorem dX6_init_130 : decode cX6_init 130 = .ok (.newarray .int, 2) := by decide +kernel
theorem dX6_init_132 : decode cX6_init 132 = .ok (.putfield 46, 3) := by decide +kernel
theorem dX6_init_135 : decode cX6_init 135 = .ok (.aload_n 0, 1) := by decide +kernel
theorem dX6_init_136 : decode cX6_init 136 = .ok (.iconst 4, 1) := by decide +kernel
theorem dX6_init_137 : decode cX6_init 137 = .ok (.newarray .int, 2) := by decide +kernel
theorem dX6_init_139 : decode cX6_init 139 = .ok (.dup, 1) := by decide +kernel
theorem dX6_init_140 : decode cX6_init 140 = .ok (.iconst 0, 1) := by decide +kernel
theorem dX6_init_141 : decode cX6_init 141 = .ok (.iconst 3, 1) := by decide +kernel
theorem dX6_init_142 : decode cX6_init 142 = .ok (.iastore, 1) := by decide +kernel
theorem dX6_init_143 : decode cX6_init 143 = .ok (.dup, 1) := by decide +kernel
theorem dX6_init_144 : decode cX6_init 144 = .ok (.iconst 1, 1) := by decide +kernel
theorem dX6_init_145 : decode cX6_init 145 = .ok (.iconst 0, 1) := by decide +kernel
theorem dX6_init_146 : decode cX6_init 146 = .ok (.iastore, 1) := by decide +kernel
theorem dX6_init_147 : decode cX6_init 147 = .ok (.dup, 1) := by decide +kernel
theorem dX6_init_148 : decode cX6_init 148 = .ok (.iconst 2, 1) := by decide +kernel
theorem dX6_init_149 : decode cX6_init 149 = .ok (.iconst 1, 1) := by decide +kernel
theorem dX6_init_150 : decode cX6_init 150 = .ok (.iastore, 1) := by decide +kernel
theorem dX6_init_151 : decode cX6_init 151 = .ok (.dup, 1) := by decide +kernel
theorem dX6_init_152 : decode cX6_init 152 = .ok (.iconst 3, 1) := by decide +kernel
theorem dX6_init_153 : decode cX6_init 153 = .ok (.sipush 1000, 3) := by decide +kernel
theorem dX6_init_156 : decode cX6_init 156 = .ok (.iastore, 1) := by decide +kernel
theorem dX6_init_157 : decode cX6_init 157 = .ok (.putfield 49, 3) := by decide +kernel
theorem dX6_init_160 : decode cX6_init 160 = .ok (.return_, 1) := by decide +kernel
theorem dX6_in_0 : decode cX6_in 0 = .ok (.iload_n 0, 1) := by decide +kernel
theorem dX6_in_1 : decode cX6_in 1 = .ok (.iload_n 1, 1) := by decide +kernel
theorem dX6_in_2 : decode cX6_in 2 = .ok (.if_icmp .lt 12, 3) := by decide +kernel
theorem dX6_in_5 : decode cX6_in 5 = .ok (.iload_n 0, 1) := by decide +kernel
theorem dX6_in_6 : decode cX6_in 6 = .ok (.iload_n 2, 1) := by decide +kernel
theorem dX6_in_7 : decode cX6_in 7 = .ok (.if_icmp .gt 7, 3) := by decide +kernel
theorem dX6_in_10 : decode cX6_in 10 = .ok (.iconst 1, 1) := by decide +kernel
theorem dX6_in_11 : decode cX6_in 11 = .ok (.goto 4, 3) := by decide +kernel
theorem dX6_in_14 : decode cX6_in 14 = .ok (.iconst 0, 1) := by decide +kernel
theorem dX6_in_15 : decode cX6_in 15 = .ok (.ireturn, 1) := by decide +kernel
theorem dX6_isBeat_0 : decode cX6_isBeat 0 = .ok (.iload_n 1, 1) := by decide +kernel
theorem dX6_isBeat_1 : decode cX6_isBeat 1 = .ok (.iconst 0, 1) := by decide +kernel
theorem dX6_isBeat_2 : decode cX6_isBeat 2 = .ok (.aload_n 0, 1) := by decide +kernel
theorem dX6_isBeat_3 : decode cX6_isBeat 3 = .ok (.getfield 7, 3) := by decide +kernel
theorem dX6_isBeat_6 : decode cX6_isBeat 6 = .ok (.iconst 5, 1) := by decide +kernel
theorem dX6_isBeat_7 : decode cX6_isBeat 7 = .ok (.iaload, 1) := by decide +kernel
theorem dX6_isBeat_8 : decode cX6_isBeat 8 = .ok (.iconst 1, 1) := by decide +kernel
theorem dX6_isBeat_9 : decode cX6_isBeat 9 = .ok (.isub, 1) := by decide +kernel
theorem dX6_isBeat_10 : decode cX6_isBeat 10 = .ok (.invokestatic 52, 3) := by decide +kernel
theorem dX6_isBeat_13 : decode cX6_isBeat 13 = .ok (.ireturn, 1) := by decide +kernel
theorem dX6_isSystem_0 : decode cX6_isSystem 0 = .ok (.iload_n 0, 1) := by decide +kernel
theorem dX6_isSystem_1 : decode cX6_isSystem 1 = .ok (.iconst 0, 1) := by decide +kernel
theorem dX6_isSystem_2 : decode cX6_isSystem 2 = .ok (.bipush 11, 2) := by decide +kernel
theorem dX6_isSystem_4 : decode cX6_isSystem 4 = .ok (.invokestatic 52, 3) := by decide +kernel
theorem dX6_isSystem_7 : decode cX6_isSystem 7 = .ok (.ifCond .eq 17, 3) := by decide +kernel
theorem dX6_isSystem_10 : decode cX6_isSystem 10 = .ok (.iload_n 1, 1) := by decide +kernel
theorem dX6_isSystem_11 : decode cX6_isSystem 11 = .ok (.iconst 0, 1) := by decide +kernel
theorem dX6_isSystem_12 : decode cX6_isSystem 12 = .ok (.bipush 63, 2) := by decide +kernel
theorem dX6_isSystem_14 : decode cX6_isSystem 14 = .ok (.invokestatic 52, 3) := by decide +kernel
theorem dX6_isSystem_17 : decode cX6_isSystem 17 = .ok (.ifCond .eq 7, 3) := by decide +kernel
theorem dX6_isSystem_20 : decode cX6_isSystem 20 = .ok (.iconst 1, 1) := by decide +kernel
theorem dX6_isSystem_21 : decode cX6_isSystem 21 = .ok (.goto 4, 3) := by decide +kernel
theorem dX6_isSystem_24 : decode cX6_isSystem 24 = .ok (.iconst 0, 1) := by decide +kernel
theorem dX6_isSystem_25 : decode cX6_isSystem 25 = .ok (.ireturn, 1) := by decide +kernel
theorem dX6_system_0 : decode cX6_system 0 = .ok (.iload_n 1, 1) := by decide +kernel
theorem dX6_system_1 : decode cX6_system 1 = .ok (.iload_n 2, 1) := by decide +kernel
theorem dX6_system_2 : decode cX6_system 2 = .ok (.invokestatic 56, 3) := by decide +kernel
theorem dX6_system_5 : decode cX6_system 5 = .ok (.ifCond .ne 5, 3) := by decide +kernel
theorem dX6_system_8 : decode cX6_system 8 = .ok (.iconst (-1), 1) := by decide +kernel
theorem dX6_system_9 : decode cX6_system 9 = .ok (.ireturn, 1) := by decide +kernel
theorem dX6_system_10 : decode cX6_system 10 = .ok (.aload_n 0, 1) := by decide +kernel
theorem dX6_system_11 : decode cX6_system 11 = .ok (.getfield 7, 3) := by decide +kernel
theorem dX6_system_14 : decode cX6_system 14 = .ok (.iconst 0, 1) := by decide +kernel
theorem dX6_system_15 : decode cX6_system 15 = .ok (.iload_n 1, 1) := by decide +kernel
theorem dX6_system_16 : decode cX6_system 16 = .ok (.iastore, 1) := by decide +kernel
theorem dX6_system_17 : decode cX6_system 17 = .ok (.aload_n 0, 1) := by decide +kernel
theorem dX6_system_18 : decode cX6_system 18 = .ok (.getfield 7, 3) := by decide +kernel
theorem dX6_system_21 : decode cX6_system 21 = .ok (.iconst 1, 1) := by decide +kernel
theorem dX6_system_22 : decode cX6_system 22 = .ok (.iload_n 2, 1) := by decide +kernel
theorem dX6_system_23 : decode cX6_system 23 = .ok (.iastore, 1) := by decide +kernel
theorem dX6_system_24 : decode cX6_system 24 = .ok (.iconst 1, 1) := by decide +kernel
theorem dX6_system_25 : decode cX6_system 25 = .ok (.ireturn, 1) := by decide +kernel
theorem dX6_rootOf_0 : decode cX6_rootOf 0 = .ok (.aload_n 0, 1) := by decide +kernel
theorem dX6_rootOf_1 : decode cX6_rootOf 1 = .ok (.getfield 7, 3) := by decide +kernel
theorem dX6_rootOf_4 : decode cX6_rootOf 4 = .ok (.iconst 0, 1) := by decide +kernel
theorem dX6_rootOf_5 : decode cX6_rootOf 5 = .ok (.iaload, 1) := by decide +kernel
theorem dX6_rootOf_6 : decode cX6_rootOf 6 = .ok (.bipush 7, 2) := by decide +kernel
theorem dX6_rootOf_8 : decode cX6_rootOf 8 = .ok (.iload_n 1, 1) := by decide +kernel
theorem dX6_rootOf_9 : decode cX6_rootOf 9 = .ok (.imul, 1) := by decide +kernel
theorem dX6_rootOf_10 : decode cX6_rootOf 10 = .ok (.iadd, 1) := by decide +kernel
theorem dX6_rootOf_11 : decode cX6_rootOf 11 = .ok (.bipush 12, 2) := by decide +kernel
theorem dX6_rootOf_13 : decode cX6_rootOf 13 = .ok (.irem, 1) := by decide +kernel
theorem dX6_rootOf_14 : decode cX6_rootOf 14 = .ok (.ireturn, 1) := by decide +kernel
theorem dX6_isThere_0 : decode cX6_isThere 0 = .ok (.aload_n 0, 1) := by decide +kernel
theorem dX6_isThere_1 : decode cX6_isThere 1 = .ok (.getfield 7, 3) := by decide +kernel
theorem dX6_isThere_4 : decode cX6_isThere 4 = .ok (.iconst 1, 1) := by decide +kernel
theorem dX6_isThere_5 : decode cX6_isThere 5 = .ok (.iaload, 1) := by decide +kernel
theorem dX6_isThere_6 : decode cX6_isThere 6 = .ok (.iload_n 1, 1) := by decide +kernel
theorem dX6_isThere_7 : decode cX6_isThere 7 = .ok (.bipush 6, 2) := by decide +kernel
theorem dX6_isThere_9 : decode cX6_isThere 9 = .ok (.irem, 1) := by decide +kernel
theorem dX6_isThere_10 : decode cX6_isThere 10 = .ok (.ishr, 1) := by decide +kernel
theorem dX6_isThere_11 : decode cX6_isThere 11 = .ok (.iconst 1, 1) := by decide +kernel
theorem dX6_isThere_12 : decode cX6_isThere 12 = .ok (.iand, 1) := by decide +kernel
theorem dX6_isThere_13 : decode cX6_isThere 13 = .ok (.iconst 1, 1) := by decide +kernel
theorem dX6_isThere_14 : decode cX6_isThere 14 = .ok (.if_icmp .ne 7, 3) := by decide +kernel
theorem dX6_isThere_17 : decode cX6_isThere 17 = .ok (.iconst 1, 1) := by decide +kernel
theorem dX6_isThere_18 : decode cX6_isThere 18 = .ok (.goto 4, 3) := by decide +kernel
theorem dX6_isThere_21 : decode cX6_isThere 21 = .ok (.iconst 0, 1) := by decide +kernel
theorem dX6_isThere_22 : decode cX6_isThere 22 = .ok (.ireturn, 1) := by decide +kernel
theorem dX6_soundOf_0 : decode cX6_soundOf 0 = .ok (.aload_n 0, 1) := by decide +kernel
theorem dX6_soundOf_1 : decode cX6_soundOf 1 = .ok (.iload_n 1, 1) := by decide +kernel
theorem dX6_soundOf_2 : decode cX6_soundOf 2 = .ok (.bipush 6, 2) := by decide +kernel
theorem dX6_soundOf_4 : decode cX6_soundOf 4 = .ok (.idiv, 1) := by decide +kernel
theorem dX6_soundOf_5 : decode cX6_soundOf 5 = .ok (.invokevirtual 60, 3) := by decide +kernel
theorem dX6_soundOf_8 : decode cX6_soundOf 8 = .ok (.istore_n 2, 1) := by decide +kernel
theorem dX6_soundOf_9 : decode cX6_soundOf 9 = .ok (.iload_n 1, 1) := by decide +kernel
theorem dX6_soundOf_10 : decode cX6_soundOf 10 = .ok (.bipush 6, 2) := by decide +kernel
theorem dX6_soundOf_12 : decode cX6_soundOf 12 = .ok (.irem, 1) := by decide +kernel
theorem dX6_soundOf_13 : decode cX6_soundOf 13 = .ok (.tableswitch 117 0 4 #[35, 44, 48, 71, 94], 35) := by decide +kernel
theorem dX6_soundOf_48 : decode cX6_soundOf 48 = .ok (.iconst 1, 1) := by decide +kernel
theorem dX6_soundOf_49 : decode cX6_soundOf 49 = .ok (.iload_n 2, 1) := by decide +kernel
theorem dX6_soundOf_50 : decode cX6_soundOf 50 = .ok (.iconst 4, 1) := by decide +kernel
theorem dX6_soundOf_51 : decode cX6_soundOf 51 = .ok (.iadd, 1) := by decide +kernel
theorem dX6_soundOf_52 : decode cX6_soundOf 52 = .ok (.bipush 12, 2) := by decide +kernel
theorem dX6_soundOf_54 : decode cX6_soundOf 54 = .ok (.irem, 1) := by decide +kernel
theorem dX6_soundOf_55 : decode cX6_soundOf 55 = .ok (.ishl, 1) := by decide +kernel
theorem dX6_soundOf_56 : decode cX6_soundOf 56 = .ok (.ireturn, 1) := by decide +kernel
theorem dX6_soundOf_57 : decode cX6_soundOf 57 = .ok (.iconst 1, 1) := by decide +kernel
theorem dX6_soundOf_58 : decode cX6_soundOf 58 = .ok (.iload_n 2, 1) := by decide +kernel
theorem dX6_soundOf_59 : decode cX6_soundOf 59 = .ok (.ishl, 1) := by decide +kernel
theorem dX6_soundOf_60 : decode cX6_soundOf 60 = .ok (.ireturn, 1) := by decide +kernel
theorem dX6_soundOf_61 : decode cX6_soundOf 61 = .ok (.iconst 1, 1) := by decide +kernel
theorem dX6_soundOf_62 : decode cX6_soundOf 62 = .ok (.iload_n 2, 1) := by decide +kernel
theorem dX6_soundOf_63 : decode cX6_soundOf 63 = .ok (.ishl, 1) := by decide +kernel
theorem dX6_soundOf_64 : decode cX6_soundOf 64 = .ok (.iconst 1, 1) := by decide +kernel
theorem dX6_soundOf_65 : decode cX6_soundOf 65 = .ok (.iload_n 2, 1) := by decide +kernel
theorem dX6_soundOf_66 : decode cX6_soundOf 66 = .ok (.iconst 4, 1) := by decide +kernel
theorem dX6_soundOf_67 : decode cX6_soundOf 67 = .ok (.iadd, 1) := by decide +kernel
theorem dX6_soundOf_68 : decode cX6_soundOf 68 = .ok (.bipush 12, 2) := by decide +kernel
theorem dX6_soundOf_70 : decode cX6_soundOf 70 = .ok (.irem, 1) := by decide +kernel
theorem dX6_soundOf_71 : decode cX6_soundOf 71 = .ok (.ishl, 1) := by decide +kernel
theorem dX6_soundOf_72 : decode cX6_soundOf 72 = .ok (.ior, 1) := by decide +kernel
theorem dX6_soundOf_73 : decode cX6_soundOf 73 = .ok (.iconst 1, 1) := by decide +kernel
theorem dX6_soundOf_74 : decode cX6_soundOf 74 = .ok (.iload_n 2, 1) := by decide +kernel
theorem dX6_soundOf_75 : decode cX6_soundOf 75 = .ok (.bipush 7, 2) := by decide +kernel
theorem dX6_soundOf_77 : decode cX6_soundOf 77 = .ok (.iadd, 1) := by decide +kernel
theorem dX6_soundOf_78 : decode cX6_soundOf 78 = .ok (.bipush 12, 2) := by decide +kernel
theorem dX6_soundOf_80 : decode cX6_soundOf 80 = .ok (.irem, 1) := by decide +kernel
theorem dX6_soundOf_81 : decode cX6_soundOf 81 = .ok (.ishl, 1) := by decide +kernel
theorem dX6_soundOf_82 : decode cX6_soundOf 82 = .ok (.ior, 1) := by decide +kernel
theorem dX6_soundOf_83 : decode cX6_soundOf 83 = .ok (.ireturn, 1) := by decide +kernel
theorem dX6_soundOf_84 : decode cX6_soundOf 84 = .ok (.iconst 1, 1) := by decide +kernel
theorem dX6_soundOf_85 : decode cX6_soundOf 85 = .ok (.iload_n 2, 1) := by decide +kernel
theorem dX6_soundOf_86 : decode cX6_soundOf 86 = .ok (.ishl, 1) := by decide +kernel
theorem dX6_soundOf_87 : decode cX6_soundOf 87 = .ok (.iconst 1, 1) := by decide +kernel
theorem dX6_soundOf_88 : decode cX6_soundOf 88 = .ok (.iload_n 2, 1) := by decide +kernel
theorem dX6_soundOf_89 : decode cX6_soundOf 89 = .ok (.iconst 3, 1) := by decide +kernel
theorem dX6_soundOf_90 : decode cX6_soundOf 90 = .ok (.iadd, 1) := by decide +kernel
theorem dX6_soundOf_91 : decode cX6_soundOf 91 = .ok (.bipush 12, 2) := by decide +kernel
theorem dX6_soundOf_93 : decode cX6_soundOf 93 = .ok (.irem, 1) := by decide +kernel
theorem dX6_soundOf_94 : decode cX6_soundOf 94 = .ok (.ishl, 1) := by decide +kernel
theorem dX6_soundOf_95 : decode cX6_soundOf 95 = .ok (.ior, 1) := by decide +kernel
theorem dX6_soundOf_96 : decode cX6_soundOf 96 = .ok (.iconst 1, 1) := by decide +kernel
theorem dX6_soundOf_97 : decode cX6_soundOf 97 = .ok (.iload_n 2, 1) := by decide +kernel
theorem dX6_soundOf_98 : decode cX6_soundOf 98 = .ok (.bipush 7, 2) := by decide +kernel
theorem dX6_soundOf_100 : decode cX6_soundOf 100 = .ok (.iadd, 1) := by decide +kernel
theorem dX6_soundOf_101 : decode cX6_soundOf 101 = .ok (.bipush 12, 2) := by decide +kernel
theorem dX6_soundOf_103 : decode cX6_soundOf 103 = .ok (.irem, 1) := by decide +kernel
theorem dX6_soundOf_104 : decode cX6_soundOf 104 = .ok (.ishl, 1) := by decide +kernel
theorem dX6_soundOf_105 : decode cX6_soundOf 105 = .ok (.ior, 1) := by decide +kernel
theorem dX6_soundOf_106 : decode cX6_soundOf 106 = .ok (.ireturn, 1) := by decide +kernel
theorem dX6_soundOf_107 : decode cX6_soundOf 107 = .ok (.iconst 1, 1) := by decide +kernel
theorem dX6_soundOf_108 : decode cX6_soundOf 108 = .ok (.iload_n 2, 1) := by decide +kernel
theorem dX6_soundOf_109 : decode cX6_soundOf 109 = .ok (.ishl, 1) := by decide +kernel
theorem dX6_soundOf_110 : decode cX6_soundOf 110 = .ok (.iconst 1, 1) := by decide +kernel
theorem dX6_soundOf_111 : decode cX6_soundOf 111 = .ok (.iload_n 2, 1) := by decide +kernel
theorem dX6_soundOf_112 : decode cX6_soundOf 112 = .ok (.iconst 4, 1) := by decide +kernel
theorem dX6_soundOf_113 : decode cX6_soundOf 113 = .ok (.iadd, 1) := by decide +kernel
theorem dX6_soundOf_114 : decode cX6_soundOf 114 = .ok (.bipush 12, 2) := by decide +kernel
theorem dX6_soundOf_116 : decode cX6_soundOf 116 = .ok (.irem, 1) := by decide +kernel
theorem dX6_soundOf_117 : decode cX6_soundOf 117 = .ok (.ishl, 1) := by decide +kernel
theorem dX6_soundOf_118 : decode cX6_soundOf 118 = .ok (.ior, 1) := by decide +kernel
theorem dX6_soundOf_119 : decode cX6_soundOf 119 = .ok (.iconst 1, 1) := by decide +kernel
theorem dX6_soundOf_120 : decode cX6_soundOf 120 = .ok (.iload_n 2, 1) := by decide +kernel
theorem dX6_soundOf_121 : decode cX6_soundOf 121 = .ok (.bipush 10, 2) := by decide +kernel
theorem dX6_soundOf_123 : decode cX6_soundOf 123 = .ok (.iadd, 1) := by decide +kernel
theorem dX6_soundOf_124 : decode cX6_soundOf 124 = .ok (.bipush 12, 2) := by decide +kernel
theorem dX6_soundOf_126 : decode cX6_soundOf 126 = .ok (.irem, 1) := by decide +kernel
theorem dX6_soundOf_127 : decode cX6_soundOf 127 = .ok (.ishl, 1) := by decide +kernel
theorem dX6_soundOf_128 : decode cX6_soundOf 128 = .ok (.ior, 1) := by decide +kernel
theorem dX6_soundOf_129 : decode cX6_soundOf 129 = .ok (.ireturn, 1) := by decide +kernel
theorem dX6_soundOf_130 : decode cX6_soundOf 130 = .ok (.iconst 1, 1) := by decide +kernel
theorem dX6_soundOf_131 : decode cX6_soundOf 131 = .ok (.iload_n 2, 1) := by decide +kernel
theorem dX6_soundOf_132 : decode cX6_soundOf 132 = .ok (.ishl, 1) := by decide +kernel
theorem dX6_soundOf_133 : decode cX6_soundOf 133 = .ok (.iconst 1, 1) := by decide +kernel
theorem dX6_soundOf_134 : decode cX6_soundOf 134 = .ok (.iload_n 2, 1) := by decide +kernel
theorem dX6_soundOf_135 : decode cX6_soundOf 135 = .ok (.iconst 3, 1) := by decide +kernel
theorem dX6_soundOf_136 : decode cX6_soundOf 136 = .ok (.iadd, 1) := by decide +kernel
theorem dX6_soundOf_137 : decode cX6_soundOf 137 = .ok (.bipush 12, 2) := by decide +kernel
theorem dX6_soundOf_139 : decode cX6_soundOf 139 = .ok (.irem, 1) := by decide +kernel
theorem dX6_soundOf_140 : decode cX6_soundOf 140 = .ok (.ishl, 1) := by decide +kernel
theorem dX6_soundOf_141 : decode cX6_soundOf 141 = .ok (.ior, 1) := by decide +kernel
theorem dX6_soundOf_142 : decode cX6_soundOf 142 = .ok (.iconst 1, 1) := by decide +kernel
theorem dX6_soundOf_143 : decode cX6_soundOf 143 = .ok (.iload_n 2, 1) := by decide +kernel
theorem dX6_soundOf_144 : decode cX6_soundOf 144 = .ok (.bipush 9, 2) := by decide +kernel
theorem dX6_soundOf_146 : decode cX6_soundOf 146 = .ok (.iadd, 1) := by decide +kernel
theorem dX6_soundOf_147 : decode cX6_soundOf 147 = .ok (.bipush 12, 2) := by decide +kernel
theorem dX6_soundOf_149 : decode cX6_soundOf 149 = .ok (.irem, 1) := by decide +kernel
theorem dX6_soundOf_150 : decode cX6_soundOf 150 = .ok (.ishl, 1) := by decide +kernel
theorem dX6_soundOf_151 : decode cX6_soundOf 151 = .ok (.ior, 1) := by decide +kernel
theorem dX6_soundOf_152 : decode cX6_soundOf 152 = .ok (.ireturn, 1) := by decide +kernel
theorem dX6_sound_0 : decode cX6_sound 0 = .ok (.iload_n 1, 1) := by decide +kernel
theorem dX6_sound_1 : decode cX6_sound 1 = .ok (.iconst 0, 1) := by decide +kernel
theorem dX6_sound_2 : decode cX6_sound 2 = .ok (.bipush 71, 2) := by decide +kernel
theorem dX6_sound_4 : decode cX6_sound 4 = .ok (.invokestatic 52, 3) := by decide +kernel
theorem dX6_sound_7 : decode cX6_sound 7 = .ok (.ifCond .ne 5, 3) := by decide +kernel
theorem dX6_sound_10 : decode cX6_sound 10 = .ok (.iconst (-1), 1) := by decide +kernel
theorem dX6_sound_11 : decode cX6_sound 11 = .ok (.ireturn, 1) := by decide +kernel
theorem dX6_sound_12 : decode cX6_sound 12 = .ok (.aload_n 0, 1) := by decide +kernel
theorem dX6_sound_13 : decode cX6_sound 13 = .ok (.iload_n 1, 1) := by decide +kernel
theorem dX6_sound_14 : decode cX6_sound 14 = .ok (.invokevirtual 64, 3) := by decide +kernel
theorem dX6_sound_17 : decode cX6_sound 17 = .ok (.ifCond .eq 11, 3) := by decide +kernel
theorem dX6_sound_20 : decode cX6_sound 20 = .ok (.aload_n 0, 1) := by decide +kernel
theorem dX6_sound_21 : decode cX6_sound 21 = .ok (.iload_n 1, 1) := by decide +kernel
theorem dX6_sound_22 : decode cX6_sound 22 = .ok (.invokevirtual 68, 3) := by decide +kernel
theorem dX6_sound_25 : decode cX6_sound 25 = .ok (.goto 5, 3) := by decide +kernel
theorem dX6_sound_28 : decode cX6_sound 28 = .ok (.bipush (-3), 2) := by decide +kernel
theorem dX6_sound_30 : decode cX6_sound 30 = .ok (.ireturn, 1) := by decide +kernel
theorem dX6_root_0 : decode cX6_root 0 = .ok (.iload_n 1, 1) := by decide +kernel
theorem dX6_root_1 : decode cX6_root 1 = .ok (.iconst 0, 1) := by decide +kernel
theorem dX6_root_2 : decode cX6_root 2 = .ok (.bipush 11, 2) := by decide +kernel
theorem dX6_root_4 : decode cX6_root 4 = .ok (.invokestatic 52, 3) := by decide +kernel
theorem dX6_root_7 : decode cX6_root 7 = .ok (.ifCond .eq 11, 3) := by decide +kernel
theorem dX6_root_10 : decode cX6_root 10 = .ok (.aload_n 0, 1) := by decide +kernel
theorem dX6_root_11 : decode cX6_root 11 = .ok (.iload_n 1, 1) := by decide +kernel
theorem dX6_root_12 : decode cX6_root 12 = .ok (.invokevirtual 60, 3) := by decide +kernel
theorem dX6_root_15 : decode cX6_root 15 = .ok (.goto 4, 3) := by decide +kernel
theorem dX6_root_18 : decode cX6_root 18 = .ok (.iconst (-1), 1) := by decide +kernel
theorem dX6_root_19 : decode cX6_root 19 = .ok (.ireturn, 1) := by decide +kernel
theorem dX6_rule_0 : decode cX6_rule 0 = .ok (.iload_n 1, 1) := by decide +kernel
theorem dX6_rule_1 : decode cX6_rule 1 = .ok (.ifCond .ne 12, 3) := by decide +kernel
theorem dX6_rule_4 : decode cX6_rule 4 = .ok (.iload_n 2, 1) := by decide +kernel
theorem dX6_rule_5 : decode cX6_rule 5 = .ok (.iconst 1, 1) := by decide +kernel
theorem dX6_rule_6 : decode cX6_rule 6 = .ok (.iconst 3, 1) := by decide +kernel
theorem dX6_rule_7 : decode cX6_rule 7 = .ok (.invokestatic 52, 3) := by decide +kernel
theorem dX6_rule_10 : decode cX6_rule 10 = .ok (.goto 61, 3) := by decide +kernel
theorem dX6_rule_13 : decode cX6_rule 13 = .ok (.iload_n 1, 1) := by decide +kernel
theorem dX6_rule_14 : decode cX6_rule 14 = .ok (.iconst 1, 1) := by decide +kernel
theorem dX6_rule_15 : decode cX6_rule 15 = .ok (.if_icmp .ne 32, 3) := by decide +kernel
theorem dX6_rule_18 : decode cX6_rule 18 = .ok (.iload_n 2, 1) := by decide +kernel
theorem dX6_rule_19 : decode cX6_rule 19 = .ok (.iconst 1, 1) := by decide +kernel
theorem dX6_rule_20 : decode cX6_rule 20 = .ok (.if_icmp .lt 23, 3) := by decide +kernel
theorem dX6_rule_23 : decode cX6_rule 23 = .ok (.iload_n 2, 1) := by decide +kernel
theorem dX6_rule_24 : decode cX6_rule 24 = .ok (.aload_n 0, 1) := by decide +kernel
theorem dX6_rule_25 : decode cX6_rule 25 = .ok (.getfield 7, 3) := by decide +kernel
theorem dX6_rule_28 : decode cX6_rule 28 = .ok (.iconst 4, 1) := by decide +kernel
theorem dX6_rule_29 : decode cX6_rule 29 = .ok (.iaload, 1) := by decide +kernel
theorem dX6_rule_30 : decode cX6_rule 30 = .ok (.sipush 400, 3) := by decide +kernel
theorem dX6_rule_33 : decode cX6_rule 33 = .ok (.invokestatic 52, 3) := by decide +kernel
theorem dX6_rule_36 : decode cX6_rule 36 = .ok (.ifCond .eq 7, 3) := by decide +kernel
theorem dX6_rule_39 : decode cX6_rule 39 = .ok (.iconst 1, 1) := by decide +kernel
theorem dX6_rule_40 : decode cX6_rule 40 = .ok (.goto 31, 3) := by decide +kernel
theorem dX6_rule_43 : decode cX6_rule 43 = .ok (.iconst 0, 1) := by decide +kernel
theorem dX6_rule_44 : decode cX6_rule 44 = .ok (.goto 27, 3) := by decide +kernel
theorem dX6_rule_47 : decode cX6_rule 47 = .ok (.iload_n 1, 1) := by decide +kernel
theorem dX6_rule_48 : decode cX6_rule 48 = .ok (.iconst 2, 1) := by decide +kernel
theorem dX6_rule_49 : decode cX6_rule 49 = .ok (.if_icmp .ne 21, 3) := by decide +kernel
theorem dX6_rule_52 : decode cX6_rule 52 = .ok (.iload_n 2, 1) := by decide +kernel
theorem dX6_rule_53 : decode cX6_rule 53 = .ok (.iconst 0, 1) := by decide +kernel
theorem dX6_rule_54 : decode cX6_rule 54 = .ok (.aload_n 0, 1) := by decide +kernel
theorem dX6_rule_55 : decode cX6_rule 55 = .ok (.getfield 7, 3) := by decide +kernel
theorem dX6_rule_58 : decode cX6_rule 58 = .ok (.iconst 3, 1) := by decide +kernel
theorem dX6_rule_59 : decode cX6_rule 59 = .ok (.iaload, 1) := by decide +kernel
theorem dX6_rule_60 : decode cX6_rule 60 = .ok (.invokestatic 52, 3) := by decide +kernel
theorem dX6_rule_63 : decode cX6_rule 63 = .ok (.ifCond .eq 7, 3) := by decide +kernel
theorem dX6_rule_66 : decode cX6_rule 66 = .ok (.iconst 1, 1) := by decide +kernel
theorem dX6_rule_67 : decode cX6_rule 67 = .ok (.goto 4, 3) := by decide +kernel
theorem dX6_rule_70 : decode cX6_rule 70 = .ok (.iconst 0, 1) := by decide +kernel
theorem dX6_rule_71 : decode cX6_rule 71 = .ok (.istore_n 3, 1) := by decide +kernel
theorem dX6_rule_72 : decode cX6_rule 72 = .ok (.iload_n 3, 1) := by decide +kernel
theorem dX6_rule_73 : decode cX6_rule 73 = .ok (.ifCond .ne 5, 3) := by decide +kernel
theorem dX6_rule_76 : decode cX6_rule 76 = .ok (.iconst (-1), 1) := by decide +kernel
theorem dX6_rule_77 : decode cX6_rule 77 = .ok (.ireturn, 1) := by decide +kernel
theorem dX6_rule_78 : decode cX6_rule 78 = .ok (.aload_n 0, 1) := by decide +kernel
theorem dX6_rule_79 : decode cX6_rule 79 = .ok (.getfield 7, 3) := by decide +kernel
theorem dX6_rule_82 : decode cX6_rule 82 = .ok (.iconst 2, 1) := by decide +kernel
theorem dX6_rule_83 : decode cX6_rule 83 = .ok (.iload_n 1, 1) := by decide +kernel
theorem dX6_rule_84 : decode cX6_rule 84 = .ok (.iadd, 1) := by decide +kernel
theorem dX6_rule_85 : decode cX6_rule 85 = .ok (.iaload, 1) := by decide +kernel
theorem dX6_rule_86 : decode cX6_rule 86 = .ok (.istore 4, 2) := by decide +kernel
theorem dX6_rule_88 : decode cX6_rule 88 = .ok (.aload_n 0, 1) := by decide +kernel
theorem dX6_rule_89 : decode cX6_rule 89 = .ok (.getfield 7, 3) := by decide +kernel
theorem dX6_rule_92 : decode cX6_rule 92 = .ok (.iconst 2, 1) := by decide +kernel
theorem dX6_rule_93 : decode cX6_rule 93 = .ok (.iload_n 1, 1) := by decide +kernel
theorem dX6_rule_94 : decode cX6_rule 94 = .ok (.iadd, 1) := by decide +kernel
theorem dX6_rule_95 : decode cX6_rule 95 = .ok (.iload_n 2, 1) := by decide +kernel
theorem dX6_rule_96 : decode cX6_rule 96 = .ok (.iastore, 1) := by decide +kernel
theorem dX6_rule_97 : decode cX6_rule 97 = .ok (.iload 4, 2) := by decide +kernel
theorem dX6_rule_99 : decode cX6_rule 99 = .ok (.ireturn, 1) := by decide +kernel
theorem dX6_isTold_0 : decode cX6_isTold 0 = .ok (.iload_n 0, 1) := by decide +kernel
theorem dX6_isTold_1 : decode cX6_isTold 1 = .ok (.iconst 0, 1) := by decide +kernel
theorem dX6_isTold_2 : decode cX6_isTold 2 = .ok (.sipush 4095, 3) := by decide +kernel
theorem dX6_isTold_5 : decode cX6_isTold 5 = .ok (.invokestatic 52, 3) := by decide +kernel
theorem dX6_isTold_8 : decode cX6_isTold 8 = .ok (.ifCond .eq 36, 3) := by decide +kernel
theorem dX6_isTold_11 : decode cX6_isTold 11 = .ok (.iload_n 1, 1) := by decide +kernel
theorem dX6_isTold_12 : decode cX6_isTold 12 = .ok (.iconst (-1), 1) := by decide +kernel
theorem dX6_isTold_13 : decode cX6_isTold 13 = .ok (.bipush 11, 2) := by decide +kernel
theorem dX6_isTold_15 : decode cX6_isTold 15 = .ok (.invokestatic 52, 3) := by decide +kernel
theorem dX6_isTold_18 : decode cX6_isTold 18 = .ok (.ifCond .eq 26, 3) := by decide +kernel
theorem dX6_isTold_21 : decode cX6_isTold 21 = .ok (.iload_n 2, 1) := by decide +kernel
theorem dX6_isTold_22 : decode cX6_isTold 22 = .ok (.iconst 1, 1) := by decide +kernel
theorem dX6_isTold_23 : decode cX6_isTold 23 = .ok (.bipush 8, 2) := by decide +kernel
theorem dX6_isTold_25 : decode cX6_isTold 25 = .ok (.invokestatic 52, 3) := by decide +kernel
theorem dX6_isTold_28 : decode cX6_isTold 28 = .ok (.ifCond .eq 16, 3) := by decide +kernel
theorem dX6_isTold_31 : decode cX6_isTold 31 = .ok (.iload_n 3, 1) := by decide +kernel
theorem dX6_isTold_32 : decode cX6_isTold 32 = .ok (.iconst 0, 1) := by decide +kernel
theorem dX6_isTold_33 : decode cX6_isTold 33 = .ok (.iconst 3, 1) := by decide +kernel
theorem dX6_isTold_34 : decode cX6_isTold 34 = .ok (.invokestatic 52, 3) := by decide +kernel
theorem dX6_isTold_37 : decode cX6_isTold 37 = .ok (.ifCond .eq 7, 3) := by decide +kernel
theorem dX6_isTold_40 : decode cX6_isTold 40 = .ok (.iconst 1, 1) := by decide +kernel
theorem dX6_isTold_41 : decode cX6_isTold 41 = .ok (.goto 4, 3) := by decide +kernel
theorem dX6_isTold_44 : decode cX6_isTold 44 = .ok (.iconst 0, 1) := by decide +kernel
theorem dX6_isTold_45 : decode cX6_isTold 45 = .ok (.ireturn, 1) := by decide +kernel
theorem dX6_put_0 : decode cX6_put 0 = .ok (.aload_n 0, 1) := by decide +kernel
theorem dX6_put_1 : decode cX6_put 1 = .ok (.getfield 13, 3) := by decide +kernel
theorem dX6_put_4 : decode cX6_put 4 = .ok (.iconst 4, 1) := by decide +kernel
theorem dX6_put_5 : decode cX6_put 5 = .ok (.iload_n 1, 1) := by decide +kernel
theorem dX6_put_6 : decode cX6_put 6 = .ok (.imul, 1) := by decide +kernel
theorem dX6_put_7 : decode cX6_put 7 = .ok (.iload_n 2, 1) := by decide +kernel
theorem dX6_put_8 : decode cX6_put 8 = .ok (.iastore, 1) := by decide +kernel
theorem dX6_put_9 : decode cX6_put 9 = .ok (.aload_n 0, 1) := by decide +kernel
theorem dX6_put_10 : decode cX6_put 10 = .ok (.getfield 13, 3) := by decide +kernel
theorem dX6_put_13 : decode cX6_put 13 = .ok (.iconst 4, 1) := by decide +kernel
theorem dX6_put_14 : decode cX6_put 14 = .ok (.iload_n 1, 1) := by decide +kernel
theorem dX6_put_15 : decode cX6_put 15 = .ok (.imul, 1) := by decide +kernel
theorem dX6_put_16 : decode cX6_put 16 = .ok (.iconst 1, 1) := by decide +kernel
theorem dX6_put_17 : decode cX6_put 17 = .ok (.iadd, 1) := by decide +kernel
theorem dX6_put_18 : decode cX6_put 18 = .ok (.iload_n 3, 1) := by decide +kernel
theorem dX6_put_19 : decode cX6_put 19 = .ok (.iastore, 1) := by decide +kernel
theorem dX6_put_20 : decode cX6_put 20 = .ok (.aload_n 0, 1) := by decide +kernel
theorem dX6_put_21 : decode cX6_put 21 = .ok (.getfield 13, 3) := by decide +kernel
theorem dX6_put_24 : decode cX6_put 24 = .ok (.iconst 4, 1) := by decide +kernel
theorem dX6_put_25 : decode cX6_put 25 = .ok (.iload_n 1, 1) := by decide +kernel
theorem dX6_put_26 : decode cX6_put 26 = .ok (.imul, 1) := by decide +kernel
theorem dX6_put_27 : decode cX6_put 27 = .ok (.iconst 2, 1) := by decide +kernel
theorem dX6_put_28 : decode cX6_put 28 = .ok (.iadd, 1) := by decide +kernel
theorem dX6_put_29 : decode cX6_put 29 = .ok (.iload 4, 2) := by decide +kernel
theorem dX6_put_31 : decode cX6_put 31 = .ok (.iastore, 1) := by decide +kernel
theorem dX6_put_32 : decode cX6_put 32 = .ok (.aload_n 0, 1) := by decide +kernel
theorem dX6_put_33 : decode cX6_put 33 = .ok (.getfield 13, 3) := by decide +kernel
theorem dX6_put_36 : decode cX6_put 36 = .ok (.iconst 4, 1) := by decide +kernel
theorem dX6_put_37 : decode cX6_put 37 = .ok (.iload_n 1, 1) := by decide +kernel
theorem dX6_put_38 : decode cX6_put 38 = .ok (.imul, 1) := by decide +kernel
theorem dX6_put_39 : decode cX6_put 39 = .ok (.iconst 3, 1) := by decide +kernel
theorem dX6_put_40 : decode cX6_put 40 = .ok (.iadd, 1) := by decide +kernel
theorem dX6_put_41 : decode cX6_put 41 = .ok (.iload 5, 2) := by decide +kernel
theorem dX6_put_43 : decode cX6_put 43 = .ok (.iastore, 1) := by decide +kernel
theorem dX6_put_44 : decode cX6_put 44 = .ok (.return_, 1) := by decide +kernel
theorem dX6_beat_0 : decode cX6_beat 0 = .ok (.iload_n 1, 1) := by decide +kernel
theorem dX6_beat_1 : decode cX6_beat 1 = .ok (.iload_n 2, 1) := by decide +kernel
theorem dX6_beat_2 : decode cX6_beat 2 = .ok (.iload_n 3, 1) := by decide +kernel
theorem dX6_beat_3 : decode cX6_beat 3 = .ok (.iload 4, 2) := by decide +kernel
theorem dX6_beat_5 : decode cX6_beat 5 = .ok (.invokestatic 71, 3) := by decide +kernel
theorem dX6_beat_8 : decode cX6_beat 8 = .ok (.ifCond .ne 5, 3) := by decide +kernel
theorem dX6_beat_11 : decode cX6_beat 11 = .ok (.iconst (-1), 1) := by decide +kernel
theorem dX6_beat_12 : decode cX6_beat 12 = .ok (.ireturn, 1) := by decide +kernel
theorem dX6_beat_13 : decode cX6_beat 13 = .ok (.aload_n 0, 1) := by decide +kernel
theorem dX6_beat_14 : decode cX6_beat 14 = .ok (.getfield 7, 3) := by decide +kernel
theorem dX6_beat_17 : decode cX6_beat 17 = .ok (.iconst 5, 1) := by decide +kernel
theorem dX6_beat_18 : decode cX6_beat 18 = .ok (.iaload, 1) := by decide +kernel
theorem dX6_beat_19 : decode cX6_beat 19 = .ok (.bipush 8, 2) := by decide +kernel
theorem dX6_beat_21 : decode cX6_beat 21 = .ok (.if_icmp .ne 6, 3) := by decide +kernel
theorem dX6_beat_24 : decode cX6_beat 24 = .ok (.bipush (-2), 2) := by decide +kernel
theorem dX6_beat_26 : decode cX6_beat 26 = .ok (.ireturn, 1) := by decide +kernel
theorem dX6_beat_27 : decode cX6_beat 27 = .ok (.aload_n 0, 1) := by decide +kernel
theorem dX6_beat_28 : decode cX6_beat 28 = .ok (.aload_n 0, 1) := by decide +kernel
theorem dX6_beat_29 : decode cX6_beat 29 = .ok (.getfield 7, 3) := by decide +kernel
theorem dX6_beat_32 : decode cX6_beat 32 = .ok (.iconst 5, 1) := by decide +kernel
theorem dX6_beat_33 : decode cX6_beat 33 = .ok (.iaload, 1) := by decide +kernel
theorem dX6_beat_34 : decode cX6_beat 34 = .ok (.iload_n 1, 1) := by decide +kernel
theorem dX6_beat_35 : decode cX6_beat 35 = .ok (.iload_n 2, 1) := by decide +kernel
theorem dX6_beat_36 : decode cX6_beat 36 = .ok (.iload_n 3, 1) := by decide +kernel
theorem dX6_beat_37 : decode cX6_beat 37 = .ok (.iload 4, 2) := by decide +kernel
theorem dX6_beat_39 : decode cX6_beat 39 = .ok (.invokevirtual 75, 3) := by decide +kernel
theorem dX6_beat_42 : decode cX6_beat 42 = .ok (.aload_n 0, 1) := by decide +kernel
theorem dX6_beat_43 : decode cX6_beat 43 = .ok (.getfield 7, 3) := by decide +kernel
theorem dX6_beat_46 : decode cX6_beat 46 = .ok (.iconst 5, 1) := by decide +kernel
theorem dX6_beat_47 : decode cX6_beat 47 = .ok (.dup2, 1) := by decide +kernel
theorem dX6_beat_48 : decode cX6_beat 48 = .ok (.iaload, 1) := by decide +kernel
theorem dX6_beat_49 : decode cX6_beat 49 = .ok (.iconst 1, 1) := by decide +kernel
theorem dX6_beat_50 : decode cX6_beat 50 = .ok (.iadd, 1) := by decide +kernel
theorem dX6_beat_51 : decode cX6_beat 51 = .ok (.iastore, 1) := by decide +kernel
theorem dX6_beat_52 : decode cX6_beat 52 = .ok (.aload_n 0, 1) := by decide +kernel
theorem dX6_beat_53 : decode cX6_beat 53 = .ok (.getfield 7, 3) := by decide +kernel
theorem dX6_beat_56 : decode cX6_beat 56 = .ok (.iconst 5, 1) := by decide +kernel
theorem dX6_beat_57 : decode cX6_beat 57 = .ok (.iaload, 1) := by decide +kernel
theorem dX6_beat_58 : decode cX6_beat 58 = .ok (.iconst 1, 1) := by decide +kernel
theorem dX6_beat_59 : decode cX6_beat 59 = .ok (.isub, 1) := by decide +kernel
theorem dX6_beat_60 : decode cX6_beat 60 = .ok (.ireturn, 1) := by decide +kernel
theorem dX6_alter_0 : decode cX6_alter 0 = .ok (.aload_n 0, 1) := by decide +kernel
theorem dX6_alter_1 : decode cX6_alter 1 = .ok (.iload_n 1, 1) := by decide +kernel
theorem dX6_alter_2 : decode cX6_alter 2 = .ok (.invokevirtual 79, 3) := by decide +kernel
theorem dX6_alter_5 : decode cX6_alter 5 = .ok (.ifCond .eq 15, 3) := by decide +kernel
theorem dX6_alter_8 : decode cX6_alter 8 = .ok (.iload_n 2, 1) := by decide +kernel
theorem dX6_alter_9 : decode cX6_alter 9 = .ok (.iload_n 3, 1) := by decide +kernel
theorem dX6_alter_10 : decode cX6_alter 10 = .ok (.iload 4, 2) := by decide +kernel
theorem dX6_alter_12 : decode cX6_alter 12 = .ok (.iload 5, 2) := by decide +kernel
theorem dX6_alter_14 : decode cX6_alter 14 = .ok (.invokestatic 71, 3) := by decide +kernel
theorem dX6_alter_17 : decode cX6_alter 17 = .ok (.ifCond .ne 5, 3) := by decide +kernel
theorem dX6_alter_20 : decode cX6_alter 20 = .ok (.iconst (-1), 1) := by decide +kernel
theorem dX6_alter_21 : decode cX6_alter 21 = .ok (.ireturn, 1) := by decide +kernel
theorem dX6_alter_22 : decode cX6_alter 22 = .ok (.aload_n 0, 1) := by decide +kernel
theorem dX6_alter_23 : decode cX6_alter 23 = .ok (.iload_n 1, 1) := by decide +kernel
theorem dX6_alter_24 : decode cX6_alter 24 = .ok (.iload_n 2, 1) := by decide +kernel
theorem dX6_alter_25 : decode cX6_alter 25 = .ok (.iload_n 3, 1) := by decide +kernel
theorem dX6_alter_26 : decode cX6_alter 26 = .ok (.iload 4, 2) := by decide +kernel
theorem dX6_alter_28 : decode cX6_alter 28 = .ok (.iload 5, 2) := by decide +kernel
theorem dX6_alter_30 : decode cX6_alter 30 = .ok (.invokevirtual 75, 3) := by decide +kernel
theorem dX6_alter_33 : decode cX6_alter 33 = .ok (.iconst 1, 1) := by decide +kernel
theorem dX6_alter_34 : decode cX6_alter 34 = .ok (.ireturn, 1) := by decide +kernel
theorem dX6_drop_0 : decode cX6_drop 0 = .ok (.aload_n 0, 1) := by decide +kernel
theorem dX6_drop_1 : decode cX6_drop 1 = .ok (.getfield 7, 3) := by decide +kernel
theorem dX6_drop_4 : decode cX6_drop 4 = .ok (.iconst 5, 1) := by decide +kernel
theorem dX6_drop_5 : decode cX6_drop 5 = .ok (.iaload, 1) := by decide +kernel
theorem dX6_drop_6 : decode cX6_drop 6 = .ok (.ifCond .ne 6, 3) := by decide +kernel
theorem dX6_drop_9 : decode cX6_drop 9 = .ok (.bipush (-3), 2) := by decide +kernel
theorem dX6_drop_11 : decode cX6_drop 11 = .ok (.ireturn, 1) := by decide +kernel
theorem dX6_drop_12 : decode cX6_drop 12 = .ok (.aload_n 0, 1) := by decide +kernel
theorem dX6_drop_13 : decode cX6_drop 13 = .ok (.getfield 7, 3) := by decide +kernel
theorem dX6_drop_16 : decode cX6_drop 16 = .ok (.iconst 5, 1) := by decide +kernel
theorem dX6_drop_17 : decode cX6_drop 17 = .ok (.dup2, 1) := by decide +kernel
theorem dX6_drop_18 : decode cX6_drop 18 = .ok (.iaload, 1) := by decide +kernel
theorem dX6_drop_19 : decode cX6_drop 19 = .ok (.iconst 1, 1) := by decide +kernel
theorem dX6_drop_20 : decode cX6_drop 20 = .ok (.isub, 1) := by decide +kernel
theorem dX6_drop_21 : decode cX6_drop 21 = .ok (.iastore, 1) := by decide +kernel
theorem dX6_drop_22 : decode cX6_drop 22 = .ok (.aload_n 0, 1) := by decide +kernel
theorem dX6_drop_23 : decode cX6_drop 23 = .ok (.getfield 7, 3) := by decide +kernel
theorem dX6_drop_26 : decode cX6_drop 26 = .ok (.iconst 5, 1) := by decide +kernel
theorem dX6_drop_27 : decode cX6_drop 27 = .ok (.iaload, 1) := by decide +kernel
theorem dX6_drop_28 : decode cX6_drop 28 = .ok (.ireturn, 1) := by decide +kernel
theorem dX6_of_0 : decode cX6_of 0 = .ok (.aload_n 0, 1) := by decide +kernel
theorem dX6_of_1 : decode cX6_of 1 = .ok (.iload_n 1, 1) := by decide +kernel
theorem dX6_of_2 : decode cX6_of 2 = .ok (.invokevirtual 79, 3) := by decide +kernel
theorem dX6_of_5 : decode cX6_of 5 = .ok (.ifCond .eq 25, 3) := by decide +kernel
theorem dX6_of_8 : decode cX6_of 8 = .ok (.iload_n 2, 1) := by decide +kernel
theorem dX6_of_9 : decode cX6_of 9 = .ok (.iconst 0, 1) := by decide +kernel
theorem dX6_of_10 : decode cX6_of 10 = .ok (.iconst 3, 1) := by decide +kernel
theorem dX6_of_11 : decode cX6_of 11 = .ok (.invokestatic 52, 3) := by decide +kernel
theorem dX6_of_14 : decode cX6_of 14 = .ok (.ifCond .eq 16, 3) := by decide +kernel
theorem dX6_of_17 : decode cX6_of 17 = .ok (.aload_n 0, 1) := by decide +kernel
theorem dX6_of_18 : decode cX6_of 18 = .ok (.getfield 13, 3) := by decide +kernel
theorem dX6_of_21 : decode cX6_of 21 = .ok (.iconst 4, 1) := by decide +kernel
theorem dX6_of_22 : decode cX6_of 22 = .ok (.iload_n 1, 1) := by decide +kernel
theorem dX6_of_23 : decode cX6_of 23 = .ok (.imul, 1) := by decide +kernel
theorem dX6_of_24 : decode cX6_of 24 = .ok (.iload_n 2, 1) := by decide +kernel
theorem dX6_of_25 : decode cX6_of 25 = .ok (.iadd, 1) := by decide +kernel
theorem dX6_of_26 : decode cX6_of 26 = .ok (.iaload, 1) := by decide +kernel
theorem dX6_of_27 : decode cX6_of 27 = .ok (.goto 5, 3) := by decide +kernel
theorem dX6_of_30 : decode cX6_of 30 = .ok (.bipush (-9), 2) := by decide +kernel
theorem dX6_of_32 : decode cX6_of 32 = .ok (.ireturn, 1) := by decide +kernel
theorem dX6_ones_0 : decode cX6_ones 0 = .ok (.iconst 0, 1) := by decide +kernel
theorem dX6_ones_1 : decode cX6_ones 1 = .ok (.istore_n 1, 1) := by decide +kernel
theorem dX6_ones_2 : decode cX6_ones 2 = .ok (.iconst 0, 1) := by decide +kernel
theorem dX6_ones_3 : decode cX6_ones 3 = .ok (.istore_n 2, 1) := by decide +kernel
theorem dX6_ones_4 : decode cX6_ones 4 = .ok (.iload_n 2, 1) := by decide +kernel
theorem dX6_ones_5 : decode cX6_ones 5 = .ok (.bipush 12, 2) := by decide +kernel
theorem dX6_ones_7 : decode cX6_ones 7 = .ok (.if_icmp .ge 17, 3) := by decide +kernel
theorem dX6_ones_10 : decode cX6_ones 10 = .ok (.iload_n 1, 1) := by decide +kernel
theorem dX6_ones_11 : decode cX6_ones 11 = .ok (.iload_n 0, 1) := by decide +kernel
theorem dX6_ones_12 : decode cX6_ones 12 = .ok (.iload_n 2, 1) := by decide +kernel
theorem dX6_ones_13 : decode cX6_ones 13 = .ok (.ishr, 1) := by decide +kernel
theorem dX6_ones_14 : decode cX6_ones 14 = .ok (.iconst 1, 1) := by decide +kernel
theorem dX6_ones_15 : decode cX6_ones 15 = .ok (.iand, 1) := by decide +kernel
theorem dX6_ones_16 : decode cX6_ones 16 = .ok (.iadd, 1) := by decide +kernel
theorem dX6_ones_17 : decode cX6_ones 17 = .ok (.istore_n 1, 1) := by decide +kernel
theorem dX6_ones_18 : decode cX6_ones 18 = .ok (.iinc 2 1, 3) := by decide +kernel
theorem dX6_ones_21 : decode cX6_ones 21 = .ok (.goto (-17), 3) := by decide +kernel
theorem dX6_ones_24 : decode cX6_ones 24 = .ok (.iload_n 1, 1) := by decide +kernel
theorem dX6_ones_25 : decode cX6_ones 25 = .ok (.ireturn, 1) := by decide +kernel
theorem dX6_press_0 : decode cX6_press 0 = .ok (.aload_n 0, 1) := by decide +kernel
theorem dX6_press_1 : decode cX6_press 1 = .ok (.getfield 82, 3) := by decide +kernel
theorem dX6_press_4 : decode cX6_press 4 = .ok (.istore_n 2, 1) := by decide +kernel
theorem dX6_press_5 : decode cX6_press 5 = .ok (.iload_n 2, 1) := by decide +kernel
theorem dX6_press_6 : decode cX6_press 6 = .ok (.ifCond .le 35, 3) := by decide +kernel
theorem dX6_press_9 : decode cX6_press 9 = .ok (.aload_n 0, 1) := by decide +kernel
theorem dX6_press_10 : decode cX6_press 10 = .ok (.getfield 34, 3) := by decide +kernel
theorem dX6_press_13 : decode cX6_press 13 = .ok (.iload_n 2, 1) := by decide +kernel
theorem dX6_press_14 : decode cX6_press 14 = .ok (.iconst 1, 1) := by decide +kernel
theorem dX6_press_15 : decode cX6_press 15 = .ok (.isub, 1) := by decide +kernel
theorem dX6_press_16 : decode cX6_press 16 = .ok (.iaload, 1) := by decide +kernel
theorem dX6_press_17 : decode cX6_press 17 = .ok (.iload_n 1, 1) := by decide +kernel
theorem dX6_press_18 : decode cX6_press 18 = .ok (.if_icmp .le 23, 3) := by decide +kernel
theorem dX6_press_21 : decode cX6_press 21 = .ok (.aload_n 0, 1) := by decide +kernel
theorem dX6_press_22 : decode cX6_press 22 = .ok (.getfield 34, 3) := by decide +kernel
theorem dX6_press_25 : decode cX6_press 25 = .ok (.iload_n 2, 1) := by decide +kernel
theorem dX6_press_26 : decode cX6_press 26 = .ok (.aload_n 0, 1) := by decide +kernel
theorem dX6_press_27 : decode cX6_press 27 = .ok (.getfield 34, 3) := by decide +kernel
theorem dX6_press_30 : decode cX6_press 30 = .ok (.iload_n 2, 1) := by decide +kernel
theorem dX6_press_31 : decode cX6_press 31 = .ok (.iconst 1, 1) := by decide +kernel
theorem dX6_press_32 : decode cX6_press 32 = .ok (.isub, 1) := by decide +kernel
theorem dX6_press_33 : decode cX6_press 33 = .ok (.iaload, 1) := by decide +kernel
theorem dX6_press_34 : decode cX6_press 34 = .ok (.iastore, 1) := by decide +kernel
theorem dX6_press_35 : decode cX6_press 35 = .ok (.iinc 2 (-1), 3) := by decide +kernel
theorem dX6_press_38 : decode cX6_press 38 = .ok (.goto (-33), 3) := by decide +kernel
theorem dX6_press_41 : decode cX6_press 41 = .ok (.aload_n 0, 1) := by decide +kernel
theorem dX6_press_42 : decode cX6_press 42 = .ok (.getfield 34, 3) := by decide +kernel
theorem dX6_press_45 : decode cX6_press 45 = .ok (.iload_n 2, 1) := by decide +kernel
theorem dX6_press_46 : decode cX6_press 46 = .ok (.iload_n 1, 1) := by decide +kernel
theorem dX6_press_47 : decode cX6_press 47 = .ok (.iastore, 1) := by decide +kernel
theorem dX6_press_48 : decode cX6_press 48 = .ok (.aload_n 0, 1) := by decide +kernel
theorem dX6_press_49 : decode cX6_press 49 = .ok (.dup, 1) := by decide +kernel
theorem dX6_press_50 : decode cX6_press 50 = .ok (.getfield 82, 3) := by decide +kernel
theorem dX6_press_53 : decode cX6_press 53 = .ok (.iconst 1, 1) := by decide +kernel
theorem dX6_press_54 : decode cX6_press 54 = .ok (.iadd, 1) := by decide +kernel
theorem dX6_press_55 : decode cX6_press 55 = .ok (.putfield 82, 3) := by decide +kernel
theorem dX6_press_58 : decode cX6_press 58 = .ok (.return_, 1) := by decide +kernel
theorem dX6_isAhead_0 : decode cX6_isAhead 0 = .ok (.iconst 0, 1) := by decide +kernel
theorem dX6_isAhead_1 : decode cX6_isAhead 1 = .ok (.istore_n 2, 1) := by decide +kernel
theorem dX6_isAhead_2 : decode cX6_isAhead 2 = .ok (.iload_n 2, 1) := by decide +kernel
theorem dX6_isAhead_3 : decode cX6_isAhead 3 = .ok (.aload_n 0, 1) := by decide +kernel
theorem dX6_isAhead_4 : decode cX6_isAhead 4 = .ok (.getfield 82, 3) := by decide +kernel
theorem dX6_isAhead_7 : decode cX6_isAhead 7 = .ok (.if_icmp .ge 49, 3) := by decide +kernel
theorem dX6_isAhead_10 : decode cX6_isAhead 10 = .ok (.aload_n 0, 1) := by decide +kernel
theorem dX6_isAhead_11 : decode cX6_isAhead 11 = .ok (.getfield 34, 3) := by decide +kernel
theorem dX6_isAhead_14 : decode cX6_isAhead 14 = .ok (.iload_n 2, 1) := by decide +kernel
theorem dX6_isAhead_15 : decode cX6_isAhead 15 = .ok (.iaload, 1) := by decide +kernel
theorem dX6_isAhead_16 : decode cX6_isAhead 16 = .ok (.aload_n 0, 1) := by decide +kernel
theorem dX6_isAhead_17 : decode cX6_isAhead 17 = .ok (.getfield 31, 3) := by decide +kernel
theorem dX6_isAhead_20 : decode cX6_isAhead 20 = .ok (.iload_n 1, 1) := by decide +kernel
theorem dX6_isAhead_21 : decode cX6_isAhead 21 = .ok (.iload_n 2, 1) := by decide +kernel
theorem dX6_isAhead_22 : decode cX6_isAhead 22 = .ok (.iadd, 1) := by decide +kernel
theorem dX6_isAhead_23 : decode cX6_isAhead 23 = .ok (.iaload, 1) := by decide +kernel
theorem dX6_isAhead_24 : decode cX6_isAhead 24 = .ok (.if_icmp .eq 26, 3) := by decide +kernel
theorem dX6_isAhead_27 : decode cX6_isAhead 27 = .ok (.aload_n 0, 1) := by decide +kernel
theorem dX6_isAhead_28 : decode cX6_isAhead 28 = .ok (.getfield 34, 3) := by decide +kernel
theorem dX6_isAhead_31 : decode cX6_isAhead 31 = .ok (.iload_n 2, 1) := by decide +kernel
theorem dX6_isAhead_32 : decode cX6_isAhead 32 = .ok (.iaload, 1) := by decide +kernel
theorem dX6_isAhead_33 : decode cX6_isAhead 33 = .ok (.aload_n 0, 1) := by decide +kernel
theorem dX6_isAhead_34 : decode cX6_isAhead 34 = .ok (.getfield 31, 3) := by decide +kernel
theorem dX6_isAhead_37 : decode cX6_isAhead 37 = .ok (.iload_n 1, 1) := by decide +kernel
theorem dX6_isAhead_38 : decode cX6_isAhead 38 = .ok (.iload_n 2, 1) := by decide +kernel
theorem dX6_isAhead_39 : decode cX6_isAhead 39 = .ok (.iadd, 1) := by decide +kernel
theorem dX6_isAhead_40 : decode cX6_isAhead 40 = .ok (.iaload, 1) := by decide +kernel
theorem dX6_isAhead_41 : decode cX6_isAhead 41 = .ok (.if_icmp .ge 7, 3) := by decide +kernel
theorem dX6_isAhead_44 : decode cX6_isAhead 44 = .ok (.iconst 1, 1) := by decide +kernel
theorem dX6_isAhead_45 : decode cX6_isAhead 45 = .ok (.goto 4, 3) := by decide +kernel
theorem dX6_isAhead_48 : decode cX6_isAhead 48 = .ok (.iconst 0, 1) := by decide +kernel
theorem dX6_isAhead_49 : decode cX6_isAhead 49 = .ok (.ireturn, 1) := by decide +kernel
theorem dX6_isAhead_50 : decode cX6_isAhead 50 = .ok (.iinc 2 1, 3) := by decide +kernel
theorem dX6_isAhead_53 : decode cX6_isAhead 53 = .ok (.goto (-51), 3) := by decide +kernel
theorem dX6_isAhead_56 : decode cX6_isAhead 56 = .ok (.iconst 0, 1) := by decide +kernel
theorem dX6_isAhead_57 : decode cX6_isAhead 57 = .ok (.ireturn, 1) := by decide +kernel
theorem dX6_judge_0 : decode cX6_judge 0 = .ok (.aload_n 0, 1) := by decide +kernel
theorem dX6_judge_1 : decode cX6_judge 1 = .ok (.iconst 0, 1) := by decide +kernel
theorem dX6_judge_2 : decode cX6_judge 2 = .ok (.putfield 82, 3) := by decide +kernel
theorem dX6_judge_5 : decode cX6_judge 5 = .ok (.iconst 0, 1) := by decide +kernel
theorem dX6_judge_6 : decode cX6_judge 6 = .ok (.istore 5, 2) := by decide +kernel
theorem dX6_judge_8 : decode cX6_judge 8 = .ok (.iload_n 2, 1) := by decide +kernel
theorem dX6_judge_9 : decode cX6_judge 9 = .ok (.ifCond .lt 8, 3) := by decide +kernel
theorem dX6_judge_12 : decode cX6_judge 12 = .ok (.aload_n 0, 1) := by decide +kernel
theorem dX6_judge_13 : decode cX6_judge 13 = .ok (.iload_n 2, 1) := by decide +kernel
theorem dX6_judge_14 : decode cX6_judge 14 = .ok (.invokevirtual 86, 3) := by decide +kernel
theorem dX6_judge_17 : decode cX6_judge 17 = .ok (.iload_n 3, 1) := by decide +kernel
theorem dX6_judge_18 : decode cX6_judge 18 = .ok (.ifCond .lt 18, 3) := by decide +kernel
theorem dX6_judge_21 : decode cX6_judge 21 = .ok (.aload_n 0, 1) := by decide +kernel
theorem dX6_judge_22 : decode cX6_judge 22 = .ok (.iload_n 3, 1) := by decide +kernel
theorem dX6_judge_23 : decode cX6_judge 23 = .ok (.invokevirtual 86, 3) := by decide +kernel
theorem dX6_judge_26 : decode cX6_judge 26 = .ok (.iload 5, 2) := by decide +kernel
theorem dX6_judge_28 : decode cX6_judge 28 = .ok (.aload_n 0, 1) := by decide +kernel
theorem dX6_judge_29 : decode cX6_judge 29 = .ok (.iload_n 3, 1) := by decide +kernel
theorem dX6_judge_30 : decode cX6_judge 30 = .ok (.invokevirtual 68, 3) := by decide +kernel
theorem dX6_judge_33 : decode cX6_judge 33 = .ok (.ior, 1) := by decide +kernel
theorem dX6_judge_34 : decode cX6_judge 34 = .ok (.istore 5, 2) := by decide +kernel
theorem dX6_judge_36 : decode cX6_judge 36 = .ok (.iload 4, 2) := by decide +kernel
theorem dX6_judge_38 : decode cX6_judge 38 = .ok (.ifCond .lt 20, 3) := by decide +kernel
theorem dX6_judge_41 : decode cX6_judge 41 = .ok (.aload_n 0, 1) := by decide +kernel
theorem dX6_judge_42 : decode cX6_judge 42 = .ok (.iload 4, 2) := by decide +kernel
theorem dX6_judge_44 : decode cX6_judge 44 = .ok (.invokevirtual 86, 3) := by decide +kernel
theorem dX6_judge_47 : decode cX6_judge 47 = .ok (.iload 5, 2) := by decide +kernel
theorem dX6_judge_49 : decode cX6_judge 49 = .ok (.aload_n 0, 1) := by decide +kernel
theorem dX6_judge_50 : decode cX6_judge 50 = .ok (.iload 4, 2) := by decide +kernel
theorem dX6_judge_52 : decode cX6_judge 52 = .ok (.invokevirtual 68, 3) := by decide +kernel
theorem dX6_judge_55 : decode cX6_judge 55 = .ok (.ior, 1) := by decide +kernel
theorem dX6_judge_56 : decode cX6_judge 56 = .ok (.istore 5, 2) := by decide +kernel
theorem dX6_judge_58 : decode cX6_judge 58 = .ok (.aload_n 0, 1) := by decide +kernel
theorem dX6_judge_59 : decode cX6_judge 59 = .ok (.getfield 13, 3) := by decide +kernel
theorem dX6_judge_62 : decode cX6_judge 62 = .ok (.iconst 4, 1) := by decide +kernel
theorem dX6_judge_63 : decode cX6_judge 63 = .ok (.iload_n 1, 1) := by decide +kernel
theorem dX6_judge_64 : decode cX6_judge 64 = .ok (.imul, 1) := by decide +kernel
theorem dX6_judge_65 : decode cX6_judge 65 = .ok (.iaload, 1) := by decide +kernel
theorem dX6_judge_66 : decode cX6_judge 66 = .ok (.istore 6, 2) := by decide +kernel
theorem dX6_judge_68 : decode cX6_judge 68 = .ok (.iload 6, 2) := by decide +kernel
theorem dX6_judge_70 : decode cX6_judge 70 = .ok (.iload 5, 2) := by decide +kernel
theorem dX6_judge_72 : decode cX6_judge 72 = .ok (.iconst (-1), 1) := by decide +kernel
theorem dX6_judge_73 : decode cX6_judge 73 = .ok (.ixor, 1) := by decide +kernel
theorem dX6_judge_74 : decode cX6_judge 74 = .ok (.iand, 1) := by decide +kernel
theorem dX6_judge_75 : decode cX6_judge 75 = .ok (.invokestatic 90, 3) := by decide +kernel
theorem dX6_judge_78 : decode cX6_judge 78 = .ok (.iload_n 2, 1) := by decide +kernel
theorem dX6_judge_79 : decode cX6_judge 79 = .ok (.ifCond .ge 20, 3) := by decide +kernel
theorem dX6_judge_82 : decode cX6_judge 82 = .ok (.aload_n 0, 1) := by decide +kernel
theorem dX6_judge_83 : decode cX6_judge 83 = .ok (.getfield 13, 3) := by decide +kernel
theorem dX6_judge_86 : decode cX6_judge 86 = .ok (.iconst 4, 1) := by decide +kernel
theorem dX6_judge_87 : decode cX6_judge 87 = .ok (.iload_n 1, 1) := by decide +kernel
theorem dX6_judge_88 : decode cX6_judge 88 = .ok (.imul, 1) := by decide +kernel
theorem dX6_judge_89 : decode cX6_judge 89 = .ok (.iconst 1, 1) := by decide +kernel
theorem dX6_judge_90 : decode cX6_judge 90 = .ok (.iadd, 1) := by decide +kernel
theorem dX6_judge_91 : decode cX6_judge 91 = .ok (.iaload, 1) := by decide +kernel
theorem dX6_judge_92 : decode cX6_judge 92 = .ok (.ifCond .lt 7, 3) := by decide +kernel
theorem dX6_judge_95 : decode cX6_judge 95 = .ok (.iconst 1, 1) := by decide +kernel
theorem dX6_judge_96 : decode cX6_judge 96 = .ok (.goto 4, 3) := by decide +kernel
theorem dX6_judge_99 : decode cX6_judge 99 = .ok (.iconst 0, 1) := by decide +kernel
theorem dX6_judge_100 : decode cX6_judge 100 = .ok (.iadd, 1) := by decide +kernel
theorem dX6_judge_101 : decode cX6_judge 101 = .ok (.istore 7, 2) := by decide +kernel
theorem dX6_judge_103 : decode cX6_judge 103 = .ok (.iload 5, 2) := by decide +kernel
theorem dX6_judge_105 : decode cX6_judge 105 = .ok (.iload 6, 2) := by decide +kernel
theorem dX6_judge_107 : decode cX6_judge 107 = .ok (.iconst (-1), 1) := by decide +kernel
theorem dX6_judge_108 : decode cX6_judge 108 = .ok (.ixor, 1) := by decide +kernel
theorem dX6_judge_109 : decode cX6_judge 109 = .ok (.iand, 1) := by decide +kernel
theorem dX6_judge_110 : decode cX6_judge 110 = .ok (.invokestatic 90, 3) := by decide +kernel
theorem dX6_judge_113 : decode cX6_judge 113 = .ok (.istore 8, 2) := by decide +kernel
theorem dX6_judge_115 : decode cX6_judge 115 = .ok (.sipush 10000, 3) := by decide +kernel
theorem dX6_judge_118 : decode cX6_judge 118 = .ok (.iload 7, 2) := by decide +kernel
theorem dX6_judge_120 : decode cX6_judge 120 = .ok (.imul, 1) := by decide +kernel
theorem dX6_judge_121 : decode cX6_judge 121 = .ok (.bipush 100, 2) := by decide +kernel
theorem dX6_judge_123 : decode cX6_judge 123 = .ok (.iload 8, 2) := by decide +kernel
theorem dX6_judge_125 : decode cX6_judge 125 = .ok (.imul, 1) := by decide +kernel
theorem dX6_judge_126 : decode cX6_judge 126 = .ok (.iadd, 1) := by decide +kernel
theorem dX6_judge_127 : decode cX6_judge 127 = .ok (.aload_n 0, 1) := by decide +kernel
theorem dX6_judge_128 : decode cX6_judge 128 = .ok (.getfield 82, 3) := by decide +kernel
theorem dX6_judge_131 : decode cX6_judge 131 = .ok (.iadd, 1) := by decide +kernel
theorem dX6_judge_132 : decode cX6_judge 132 = .ok (.istore 9, 2) := by decide +kernel
theorem dX6_judge_134 : decode cX6_judge 134 = .ok (.sipush 10000, 3) := by decide +kernel
theorem dX6_judge_137 : decode cX6_judge 137 = .ok (.aload_n 0, 1) := by decide +kernel
theorem dX6_judge_138 : decode cX6_judge 138 = .ok (.getfield 19, 3) := by decide +kernel
theorem dX6_judge_141 : decode cX6_judge 141 = .ok (.iload_n 1, 1) := by decide +kernel
theorem dX6_judge_142 : decode cX6_judge 142 = .ok (.iaload, 1) := by decide +kernel
theorem dX6_judge_143 : decode cX6_judge 143 = .ok (.imul, 1) := by decide +kernel
theorem dX6_judge_144 : decode cX6_judge 144 = .ok (.bipush 100, 2) := by decide +kernel
theorem dX6_judge_146 : decode cX6_judge 146 = .ok (.aload_n 0, 1) := by decide +kernel
theorem dX6_judge_147 : decode cX6_judge 147 = .ok (.getfield 22, 3) := by decide +kernel
theorem dX6_judge_150 : decode cX6_judge 150 = .ok (.iload_n 1, 1) := by decide +kernel
theorem dX6_judge_151 : decode cX6_judge 151 = .ok (.iaload, 1) := by decide +kernel
theorem dX6_judge_152 : decode cX6_judge 152 = .ok (.imul, 1) := by decide +kernel
theorem dX6_judge_153 : decode cX6_judge 153 = .ok (.iadd, 1) := by decide +kernel
theorem dX6_judge_154 : decode cX6_judge 154 = .ok (.aload_n 0, 1) := by decide +kernel
theorem dX6_judge_155 : decode cX6_judge 155 = .ok (.getfield 25, 3) := by decide +kernel
theorem dX6_judge_158 : decode cX6_judge 158 = .ok (.iload_n 1, 1) := by decide +kernel
theorem dX6_judge_159 : decode cX6_judge 159 = .ok (.iaload, 1) := by decide +kernel
theorem dX6_judge_160 : decode cX6_judge 160 = .ok (.iadd, 1) := by decide +kernel
theorem dX6_judge_161 : decode cX6_judge 161 = .ok (.istore 10, 2) := by decide +kernel
theorem dX6_judge_163 : decode cX6_judge 163 = .ok (.aload_n 0, 1) := by decide +kernel
theorem dX6_judge_164 : decode cX6_judge 164 = .ok (.getfield 28, 3) := by decide +kernel
theorem dX6_judge_167 : decode cX6_judge 167 = .ok (.iload_n 1, 1) := by decide +kernel
theorem dX6_judge_168 : decode cX6_judge 168 = .ok (.iaload, 1) := by decide +kernel
theorem dX6_judge_169 : decode cX6_judge 169 = .ok (.ifCond .le 11, 3) := by decide +kernel
theorem dX6_judge_172 : decode cX6_judge 172 = .ok (.iload 9, 2) := by decide +kernel
theorem dX6_judge_174 : decode cX6_judge 174 = .ok (.iload 10, 2) := by decide +kernel
theorem dX6_judge_176 : decode cX6_judge 176 = .ok (.if_icmp .le 4, 3) := by decide +kernel
theorem dX6_judge_179 : decode cX6_judge 179 = .ok (.return_, 1) := by decide +kernel
theorem dX6_judge_180 : decode cX6_judge 180 = .ok (.iload 9, 2) := by decide +kernel
theorem dX6_judge_182 : decode cX6_judge 182 = .ok (.iload 10, 2) := by decide +kernel
theorem dX6_judge_184 : decode cX6_judge 184 = .ok (.if_icmp .ge 10, 3) := by decide +kernel
theorem dX6_judge_187 : decode cX6_judge 187 = .ok (.aload_n 0, 1) := by decide +kernel
theorem dX6_judge_188 : decode cX6_judge 188 = .ok (.getfield 28, 3) := by decide +kernel
theorem dX6_judge_191 : decode cX6_judge 191 = .ok (.iload_n 1, 1) := by decide +kernel
theorem dX6_judge_192 : decode cX6_judge 192 = .ok (.iconst 0, 1) := by decide +kernel
theorem dX6_judge_193 : decode cX6_judge 193 = .ok (.iastore, 1) := by decide +kernel
theorem dX6_judge_194 : decode cX6_judge 194 = .ok (.aload_n 0, 1) := by decide +kernel
theorem dX6_judge_195 : decode cX6_judge 195 = .ok (.getfield 19, 3) := by decide +kernel
theorem dX6_judge_198 : decode cX6_judge 198 = .ok (.iload_n 1, 1) := by decide +kernel
theorem dX6_judge_199 : decode cX6_judge 199 = .ok (.iload 7, 2) := by decide +kernel
theorem dX6_judge_201 : decode cX6_judge 201 = .ok (.iastore, 1) := by decide +kernel
theorem dX6_judge_202 : decode cX6_judge 202 = .ok (.aload_n 0, 1) := by decide +kernel
theorem dX6_judge_203 : decode cX6_judge 203 = .ok (.getfield 22, 3) := by decide +kernel
theorem dX6_judge_206 : decode cX6_judge 206 = .ok (.iload_n 1, 1) := by decide +kernel
theorem dX6_judge_207 : decode cX6_judge 207 = .ok (.iload 8, 2) := by decide +kernel
theorem dX6_judge_209 : decode cX6_judge 209 = .ok (.iastore, 1) := by decide +kernel
theorem dX6_judge_210 : decode cX6_judge 210 = .ok (.aload_n 0, 1) := by decide +kernel
theorem dX6_judge_211 : decode cX6_judge 211 = .ok (.getfield 25, 3) := by decide +kernel
theorem dX6_judge_214 : decode cX6_judge 214 = .ok (.iload_n 1, 1) := by decide +kernel
theorem dX6_judge_215 : decode cX6_judge 215 = .ok (.aload_n 0, 1) := by decide +kernel
theorem dX6_judge_216 : decode cX6_judge 216 = .ok (.getfield 82, 3) := by decide +kernel
theorem dX6_judge_219 : decode cX6_judge 219 = .ok (.iastore, 1) := by decide +kernel
theorem dX6_judge_220 : decode cX6_judge 220 = .ok (.aload_n 0, 1) := by decide +kernel
theorem dX6_judge_221 : decode cX6_judge 221 = .ok (.getfield 28, 3) := by decide +kernel
theorem dX6_judge_224 : decode cX6_judge 224 = .ok (.iload_n 1, 1) := by decide +kernel
theorem dX6_judge_225 : decode cX6_judge 225 = .ok (.iaload, 1) := by decide +kernel
theorem dX6_judge_226 : decode cX6_judge 226 = .ok (.istore 11, 2) := by decide +kernel
theorem dX6_judge_228 : decode cX6_judge 228 = .ok (.iload 11, 2) := by decide +kernel
theorem dX6_judge_230 : decode cX6_judge 230 = .ok (.ifCond .le 27, 3) := by decide +kernel
theorem dX6_judge_233 : decode cX6_judge 233 = .ok (.aload_n 0, 1) := by decide +kernel
theorem dX6_judge_234 : decode cX6_judge 234 = .ok (.bipush 60, 2) := by decide +kernel
theorem dX6_judge_236 : decode cX6_judge 236 = .ok (.iload_n 1, 1) := by decide +kernel
theorem dX6_judge_237 : decode cX6_judge 237 = .ok (.imul, 1) := by decide +kernel
theorem dX6_judge_238 : decode cX6_judge 238 = .ok (.iconst 3, 1) := by decide +kernel
theorem dX6_judge_239 : decode cX6_judge 239 = .ok (.iload 11, 2) := by decide +kernel
theorem dX6_judge_241 : decode cX6_judge 241 = .ok (.iconst 1, 1) := by decide +kernel
theorem dX6_judge_242 : decode cX6_judge 242 = .ok (.isub, 1) := by decide +kernel
theorem dX6_judge_243 : decode cX6_judge 243 = .ok (.imul, 1) := by decide +kernel
theorem dX6_judge_244 : decode cX6_judge 244 = .ok (.iadd, 1) := by decide +kernel
theorem dX6_judge_245 : decode cX6_judge 245 = .ok (.invokevirtual 93, 3) := by decide +kernel
theorem dX6_judge_248 : decode cX6_judge 248 = .ok (.ifCond .eq 9, 3) := by decide +kernel
theorem dX6_judge_251 : decode cX6_judge 251 = .ok (.iinc 11 (-1), 3) := by decide +kernel
theorem dX6_judge_254 : decode cX6_judge 254 = .ok (.goto (-26), 3) := by decide +kernel
theorem dX6_judge_257 : decode cX6_judge 257 = .ok (.iload 11, 2) := by decide +kernel
theorem dX6_judge_259 : decode cX6_judge 259 = .ok (.bipush 20, 2) := by decide +kernel
theorem dX6_judge_261 : decode cX6_judge 261 = .ok (.if_icmp .ne 4, 3) := by decide +kernel
theorem dX6_judge_264 : decode cX6_judge 264 = .ok (.return_, 1) := by decide +kernel
theorem dX6_judge_265 : decode cX6_judge 265 = .ok (.aload_n 0, 1) := by decide +kernel
theorem dX6_judge_266 : decode cX6_judge 266 = .ok (.getfield 28, 3) := by decide +kernel
theorem dX6_judge_269 : decode cX6_judge 269 = .ok (.iload_n 1, 1) := by decide +kernel
theorem dX6_judge_270 : decode cX6_judge 270 = .ok (.iaload, 1) := by decide +kernel
theorem dX6_judge_271 : decode cX6_judge 271 = .ok (.bipush 20, 2) := by decide +kernel
theorem dX6_judge_273 : decode cX6_judge 273 = .ok (.if_icmp .ne 8, 3) := by decide +kernel
theorem dX6_judge_276 : decode cX6_judge 276 = .ok (.bipush 19, 2) := by decide +kernel
theorem dX6_judge_278 : decode cX6_judge 278 = .ok (.goto 9, 3) := by decide +kernel
theorem dX6_judge_281 : decode cX6_judge 281 = .ok (.aload_n 0, 1) := by decide +kernel
theorem dX6_judge_282 : decode cX6_judge 282 = .ok (.getfield 28, 3) := by decide +kernel
theorem dX6_judge_285 : decode cX6_judge 285 = .ok (.iload_n 1, 1) := by decide +kernel
theorem dX6_judge_286 : decode cX6_judge 286 = .ok (.iaload, 1) := by decide +kernel
theorem dX6_judge_287 : decode cX6_judge 287 = .ok (.istore 12, 2) := by decide +kernel
theorem dX6_judge_289 : decode cX6_judge 289 = .ok (.iload 12, 2) := by decide +kernel
theorem dX6_judge_291 : decode cX6_judge 291 = .ok (.istore 13, 2) := by decide +kernel
theorem dX6_judge_293 : decode cX6_judge 293 = .ok (.iload 13, 2) := by decide +kernel
theorem dX6_judge_295 : decode cX6_judge 295 = .ok (.iload 11, 2) := by decide +kernel
theorem dX6_judge_297 : decode cX6_judge 297 = .ok (.if_icmp .le 60, 3) := by decide +kernel
theorem dX6_judge_300 : decode cX6_judge 300 = .ok (.iconst 0, 1) := by decide +kernel
theorem dX6_judge_301 : decode cX6_judge 301 = .ok (.istore 14, 2) := by decide +kernel
theorem dX6_judge_303 : decode cX6_judge 303 = .ok (.iload 14, 2) := by decide +kernel
theorem dX6_judge_305 : decode cX6_judge 305 = .ok (.iconst 3, 1) := by decide +kernel
theorem dX6_judge_306 : decode cX6_judge 306 = .ok (.if_icmp .ge 45, 3) := by decide +kernel
theorem dX6_judge_309 : decode cX6_judge 309 = .ok (.aload_n 0, 1) := by decide +kernel
theorem dX6_judge_310 : decode cX6_judge 310 = .ok (.getfield 31, 3) := by decide +kernel
theorem dX6_judge_313 : decode cX6_judge 313 = .ok (.bipush 60, 2) := by decide +kernel
theorem dX6_judge_315 : decode cX6_judge 315 = .ok (.iload_n 1, 1) := by decide +kernel
theorem dX6_judge_316 : decode cX6_judge 316 = .ok (.imul, 1) := by decide +kernel
theorem dX6_judge_317 : decode cX6_judge 317 = .ok (.iconst 3, 1) := by decide +kernel
theorem dX6_judge_318 : decode cX6_judge 318 = .ok (.iload 13, 2) := by decide +kernel
theorem dX6_judge_320 : decode cX6_judge 320 = .ok (.imul, 1) := by decide +kernel
theorem dX6_judge_321 : decode cX6_judge 321 = .ok (.iadd, 1) := by decide +kernel
theorem dX6_judge_322 : decode cX6_judge 322 = .ok (.iload 14, 2) := by decide +kernel
theorem dX6_judge_324 : decode cX6_judge 324 = .ok (.iadd, 1) := by decide +kernel
theorem dX6_judge_325 : decode cX6_judge 325 = .ok (.aload_n 0, 1) := by decide +kernel
theorem dX6_judge_326 : decode cX6_judge 326 = .ok (.getfield 31, 3) := by decide +kernel
theorem dX6_judge_329 : decode cX6_judge 329 = .ok (.bipush 60, 2) := by decide +kernel
theorem dX6_judge_331 : decode cX6_judge 331 = .ok (.iload_n 1, 1) := by decide +kernel
theorem dX6_judge_332 : decode cX6_judge 332 = .ok (.imul, 1) := by decide +kernel
theorem dX6_judge_333 : decode cX6_judge 333 = .ok (.iconst 3, 1) := by decide +kernel
theorem dX6_judge_334 : decode cX6_judge 334 = .ok (.iload 13, 2) := by decide +kernel
theorem dX6_judge_336 : decode cX6_judge 336 = .ok (.iconst 1, 1) := by decide +kernel
theorem dX6_judge_337 : decode cX6_judge 337 = .ok (.isub, 1) := by decide +kernel
theorem dX6_judge_338 : decode cX6_judge 338 = .ok (.imul, 1) := by decide +kernel
theorem dX6_judge_339 : decode cX6_judge 339 = .ok (.iadd, 1) := by decide +kernel
theorem dX6_judge_340 : decode cX6_judge 340 = .ok (.iload 14, 2) := by decide +kernel
theorem dX6_judge_342 : decode cX6_judge 342 = .ok (.iadd, 1) := by decide +kernel
theorem dX6_judge_343 : decode cX6_judge 343 = .ok (.iaload, 1) := by decide +kernel
theorem dX6_judge_344 : decode cX6_judge 344 = .ok (.iastore, 1) := by decide +kernel
theorem dX6_judge_345 : decode cX6_judge 345 = .ok (.iinc 14 1, 3) := by decide +kernel
theorem dX6_judge_348 : decode cX6_judge 348 = .ok (.goto (-45), 3) := by decide +kernel
theorem dX6_judge_351 : decode cX6_judge 351 = .ok (.iinc 13 (-1), 3) := by decide +kernel
theorem dX6_judge_354 : decode cX6_judge 354 = .ok (.goto (-61), 3) := by decide +kernel
theorem dX6_judge_357 : decode cX6_judge 357 = .ok (.iconst 0, 1) := by decide +kernel
theorem dX6_judge_358 : decode cX6_judge 358 = .ok (.istore 13, 2) := by decide +kernel
theorem dX6_judge_360 : decode cX6_judge 360 = .ok (.iload 13, 2) := by decide +kernel
theorem dX6_judge_362 : decode cX6_judge 362 = .ok (.aload_n 0, 1) := by decide +kernel
theorem dX6_judge_363 : decode cX6_judge 363 = .ok (.getfield 82, 3) := by decide +kernel
theorem dX6_judge_366 : decode cX6_judge 366 = .ok (.if_icmp .ge 33, 3) := by decide +kernel
theorem dX6_judge_369 : decode cX6_judge 369 = .ok (.aload_n 0, 1) := by decide +kernel
theorem dX6_judge_370 : decode cX6_judge 370 = .ok (.getfield 31, 3) := by decide +kernel
theorem dX6_judge_373 : decode cX6_judge 373 = .ok (.bipush 60, 2) := by decide +kernel
theorem dX6_judge_375 : decode cX6_judge 375 = .ok (.iload_n 1, 1) := by decide +kernel
theorem dX6_judge_376 : decode cX6_judge 376 = .ok (.imul, 1) := by decide +kernel
theorem dX6_judge_377 : decode cX6_judge 377 = .ok (.iconst 3, 1) := by decide +kernel
theorem dX6_judge_378 : decode cX6_judge 378 = .ok (.iload 11, 2) := by decide +kernel
theorem dX6_judge_380 : decode cX6_judge 380 = .ok (.imul, 1) := by decide +kernel
theorem dX6_judge_381 : decode cX6_judge 381 = .ok (.iadd, 1) := by decide +kernel
theorem dX6_judge_382 : decode cX6_judge 382 = .ok (.iload 13, 2) := by decide +kernel
theorem dX6_judge_384 : decode cX6_judge 384 = .ok (.iadd, 1) := by decide +kernel
theorem dX6_judge_385 : decode cX6_judge 385 = .ok (.aload_n 0, 1) := by decide +kernel
theorem dX6_judge_386 : decode cX6_judge 386 = .ok (.getfield 34, 3) := by decide +kernel
theorem dX6_judge_389 : decode cX6_judge 389 = .ok (.iload 13, 2) := by decide +kernel
theorem dX6_judge_391 : decode cX6_judge 391 = .ok (.iaload, 1) := by decide +kernel
theorem dX6_judge_392 : decode cX6_judge 392 = .ok (.iastore, 1) := by decide +kernel
theorem dX6_judge_393 : decode cX6_judge 393 = .ok (.iinc 13 1, 3) := by decide +kernel
theorem dX6_judge_396 : decode cX6_judge 396 = .ok (.goto (-36), 3) := by decide +kernel
theorem dX6_judge_399 : decode cX6_judge 399 = .ok (.aload_n 0, 1) := by decide +kernel
theorem dX6_judge_400 : decode cX6_judge 400 = .ok (.getfield 28, 3) := by decide +kernel
theorem dX6_judge_403 : decode cX6_judge 403 = .ok (.iload_n 1, 1) := by decide +kernel
theorem dX6_judge_404 : decode cX6_judge 404 = .ok (.iload 12, 2) := by decide +kernel
theorem dX6_judge_406 : decode cX6_judge 406 = .ok (.iconst 1, 1) := by decide +kernel
theorem dX6_judge_407 : decode cX6_judge 407 = .ok (.iadd, 1) := by decide +kernel
theorem dX6_judge_408 : decode cX6_judge 408 = .ok (.iastore, 1) := by decide +kernel
theorem dX6_judge_409 : decode cX6_judge 409 = .ok (.return_, 1) := by decide +kernel
theorem dX6_judgeAll_0 : decode cX6_judgeAll 0 = .ok (.aload_n 0, 1) := by decide +kernel
theorem dX6_judgeAll_1 : decode cX6_judgeAll 1 = .ok (.iload_n 1, 1) := by decide +kernel
theorem dX6_judgeAll_2 : decode cX6_judgeAll 2 = .ok (.iload_n 2, 1) := by decide +kernel
theorem dX6_judgeAll_3 : decode cX6_judgeAll 3 = .ok (.iconst (-1), 1) := by decide +kernel
theorem dX6_judgeAll_4 : decode cX6_judgeAll 4 = .ok (.iconst (-1), 1) := by decide +kernel
theorem dX6_judgeAll_5 : decode cX6_judgeAll 5 = .ok (.invokevirtual 96, 3) := by decide +kernel
theorem dX6_judgeAll_8 : decode cX6_judgeAll 8 = .ok (.iconst 0, 1) := by decide +kernel
theorem dX6_judgeAll_9 : decode cX6_judgeAll 9 = .ok (.istore_n 3, 1) := by decide +kernel
theorem dX6_judgeAll_10 : decode cX6_judgeAll 10 = .ok (.iload_n 3, 1) := by decide +kernel
theorem dX6_judgeAll_11 : decode cX6_judgeAll 11 = .ok (.bipush 72, 2) := by decide +kernel
theorem dX6_judgeAll_13 : decode cX6_judgeAll 13 = .ok (.if_icmp .ge 81, 3) := by decide +kernel
theorem dX6_judgeAll_16 : decode cX6_judgeAll 16 = .ok (.iload_n 3, 1) := by decide +kernel
theorem dX6_judgeAll_17 : decode cX6_judgeAll 17 = .ok (.bipush 6, 2) := by decide +kernel
theorem dX6_judgeAll_19 : decode cX6_judgeAll 19 = .ok (.irem, 1) := by decide +kernel
theorem dX6_judgeAll_20 : decode cX6_judgeAll 20 = .ok (.iconst 2, 1) := by decide +kernel
theorem dX6_judgeAll_21 : decode cX6_judgeAll 21 = .ok (.if_icmp .lt 67, 3) := by decide +kernel
theorem dX6_judgeAll_24 : decode cX6_judgeAll 24 = .ok (.aload_n 0, 1) := by decide +kernel
theorem dX6_judgeAll_25 : decode cX6_judgeAll 25 = .ok (.iload_n 3, 1) := by decide +kernel
theorem dX6_judgeAll_26 : decode cX6_judgeAll 26 = .ok (.invokevirtual 64, 3) := by decide +kernel
theorem dX6_judgeAll_29 : decode cX6_judgeAll 29 = .ok (.ifCond .ne 6, 3) := by decide +kernel
theorem dX6_judgeAll_32 : decode cX6_judgeAll 32 = .ok (.goto 56, 3) := by decide +kernel
theorem dX6_judgeAll_35 : decode cX6_judgeAll 35 = .ok (.aload_n 0, 1) := by decide +kernel
theorem dX6_judgeAll_36 : decode cX6_judgeAll 36 = .ok (.iload_n 1, 1) := by decide +kernel
theorem dX6_judgeAll_37 : decode cX6_judgeAll 37 = .ok (.iload_n 2, 1) := by decide +kernel
theorem dX6_judgeAll_38 : decode cX6_judgeAll 38 = .ok (.iload_n 3, 1) := by decide +kernel
theorem dX6_judgeAll_39 : decode cX6_judgeAll 39 = .ok (.iconst (-1), 1) := by decide +kernel
theorem dX6_judgeAll_40 : decode cX6_judgeAll 40 = .ok (.invokevirtual 96, 3) := by decide +kernel
theorem dX6_judgeAll_43 : decode cX6_judgeAll 43 = .ok (.iload_n 3, 1) := by decide +kernel
theorem dX6_judgeAll_44 : decode cX6_judgeAll 44 = .ok (.iconst 1, 1) := by decide +kernel
theorem dX6_judgeAll_45 : decode cX6_judgeAll 45 = .ok (.iadd, 1) := by decide +kernel
theorem dX6_judgeAll_46 : decode cX6_judgeAll 46 = .ok (.istore 4, 2) := by decide +kernel
theorem dX6_judgeAll_48 : decode cX6_judgeAll 48 = .ok (.iload 4, 2) := by decide +kernel
theorem dX6_judgeAll_50 : decode cX6_judgeAll 50 = .ok (.bipush 72, 2) := by decide +kernel
theorem dX6_judgeAll_52 : decode cX6_judgeAll 52 = .ok (.if_icmp .ge 36, 3) := by decide +kernel
theorem dX6_judgeAll_55 : decode cX6_judgeAll 55 = .ok (.iload 4, 2) := by decide +kernel
theorem dX6_judgeAll_57 : decode cX6_judgeAll 57 = .ok (.bipush 6, 2) := by decide +kernel
theorem dX6_judgeAll_59 : decode cX6_judgeAll 59 = .ok (.irem, 1) := by decide +kernel
theorem dX6_judgeAll_60 : decode cX6_judgeAll 60 = .ok (.iconst 1, 1) := by decide +kernel
theorem dX6_judgeAll_61 : decode cX6_judgeAll 61 = .ok (.if_icmp .le 21, 3) := by decide +kernel
theorem dX6_judgeAll_64 : decode cX6_judgeAll 64 = .ok (.aload_n 0, 1) := by decide +kernel
theorem dX6_judgeAll_65 : decode cX6_judgeAll 65 = .ok (.iload 4, 2) := by decide +kernel
theorem dX6_judgeAll_67 : decode cX6_judgeAll 67 = .ok (.invokevirtual 64, 3) := by decide +kernel
theorem dX6_judgeAll_70 : decode cX6_judgeAll 70 = .ok (.ifCond .eq 12, 3) := by decide +kernel
theorem dX6_judgeAll_73 : decode cX6_judgeAll 73 = .ok (.aload_n 0, 1) := by decide +kernel
theorem dX6_judgeAll_74 : decode cX6_judgeAll 74 = .ok (.iload_n 1, 1) := by decide +kernel
theorem dX6_judgeAll_75 : decode cX6_judgeAll 75 = .ok (.iload_n 2, 1) := by decide +kernel
theorem dX6_judgeAll_76 : decode cX6_judgeAll 76 = .ok (.iload_n 3, 1) := by decide +kernel
theorem dX6_judgeAll_77 : decode cX6_judgeAll 77 = .ok (.iload 4, 2) := by decide +kernel
theorem dX6_judgeAll_79 : decode cX6_judgeAll 79 = .ok (.invokevirtual 96, 3) := by decide +kernel
theorem dX6_judgeAll_82 : decode cX6_judgeAll 82 = .ok (.iinc 4 1, 3) := by decide +kernel
theorem dX6_judgeAll_85 : decode cX6_judgeAll 85 = .ok (.goto (-37), 3) := by decide +kernel
theorem dX6_judgeAll_88 : decode cX6_judgeAll 88 = .ok (.iinc 3 1, 3) := by decide +kernel
theorem dX6_judgeAll_91 : decode cX6_judgeAll 91 = .ok (.goto (-81), 3) := by decide +kernel
theorem dX6_judgeAll_94 : decode cX6_judgeAll 94 = .ok (.return_, 1) := by decide +kernel
theorem dX6_findGood_0 : decode cX6_findGood 0 = .ok (.aload_n 0, 1) := by decide +kernel
theorem dX6_findGood_1 : decode cX6_findGood 1 = .ok (.getfield 28, 3) := by decide +kernel
theorem dX6_findGood_4 : decode cX6_findGood 4 = .ok (.iload_n 1, 1) := by decide +kernel
theorem dX6_findGood_5 : decode cX6_findGood 5 = .ok (.iconst 0, 1) := by decide +kernel
theorem dX6_findGood_6 : decode cX6_findGood 6 = .ok (.iastore, 1) := by decide +kernel
theorem dX6_findGood_7 : decode cX6_findGood 7 = .ok (.aload_n 0, 1) := by decide +kernel
theorem dX6_findGood_8 : decode cX6_findGood 8 = .ok (.getfield 19, 3) := by decide +kernel
theorem dX6_findGood_11 : decode cX6_findGood 11 = .ok (.iload_n 1, 1) := by decide +kernel
theorem dX6_findGood_12 : decode cX6_findGood 12 = .ok (.bipush 100, 2) := by decide +kernel
theorem dX6_findGood_14 : decode cX6_findGood 14 = .ok (.iastore, 1) := by decide +kernel
theorem dX6_findGood_15 : decode cX6_findGood 15 = .ok (.aload_n 0, 1) := by decide +kernel
theorem dX6_findGood_16 : decode cX6_findGood 16 = .ok (.getfield 22, 3) := by decide +kernel
theorem dX6_findGood_19 : decode cX6_findGood 19 = .ok (.iload_n 1, 1) := by decide +kernel
theorem dX6_findGood_20 : decode cX6_findGood 20 = .ok (.iconst 0, 1) := by decide +kernel
theorem dX6_findGood_21 : decode cX6_findGood 21 = .ok (.iastore, 1) := by decide +kernel
theorem dX6_findGood_22 : decode cX6_findGood 22 = .ok (.aload_n 0, 1) := by decide +kernel
theorem dX6_findGood_23 : decode cX6_findGood 23 = .ok (.getfield 25, 3) := by decide +kernel
theorem dX6_findGood_26 : decode cX6_findGood 26 = .ok (.iload_n 1, 1) := by decide +kernel
theorem dX6_findGood_27 : decode cX6_findGood 27 = .ok (.iconst 0, 1) := by decide +kernel
theorem dX6_findGood_28 : decode cX6_findGood 28 = .ok (.iastore, 1) := by decide +kernel
theorem dX6_findGood_29 : decode cX6_findGood 29 = .ok (.aload_n 0, 1) := by decide +kernel
theorem dX6_findGood_30 : decode cX6_findGood 30 = .ok (.getfield 13, 3) := by decide +kernel
theorem dX6_findGood_33 : decode cX6_findGood 33 = .ok (.iconst 4, 1) := by decide +kernel
theorem dX6_findGood_34 : decode cX6_findGood 34 = .ok (.iload_n 1, 1) := by decide +kernel
theorem dX6_findGood_35 : decode cX6_findGood 35 = .ok (.imul, 1) := by decide +kernel
theorem dX6_findGood_36 : decode cX6_findGood 36 = .ok (.iconst 1, 1) := by decide +kernel
theorem dX6_findGood_37 : decode cX6_findGood 37 = .ok (.iadd, 1) := by decide +kernel
theorem dX6_findGood_38 : decode cX6_findGood 38 = .ok (.iaload, 1) := by decide +kernel
theorem dX6_findGood_39 : decode cX6_findGood 39 = .ok (.istore_n 2, 1) := by decide +kernel
theorem dX6_findGood_40 : decode cX6_findGood 40 = .ok (.iconst 0, 1) := by decide +kernel
theorem dX6_findGood_41 : decode cX6_findGood 41 = .ok (.istore_n 3, 1) := by decide +kernel
theorem dX6_findGood_42 : decode cX6_findGood 42 = .ok (.iconst 0, 1) := by decide +kernel
theorem dX6_findGood_43 : decode cX6_findGood 43 = .ok (.istore 4, 2) := by decide +kernel
theorem dX6_findGood_45 : decode cX6_findGood 45 = .ok (.iload 4, 2) := by decide +kernel
theorem dX6_findGood_47 : decode cX6_findGood 47 = .ok (.bipush 72, 2) := by decide +kernel
theorem dX6_findGood_49 : decode cX6_findGood 49 = .ok (.if_icmp .ge 52, 3) := by decide +kernel
theorem dX6_findGood_52 : decode cX6_findGood 52 = .ok (.iload_n 2, 1) := by decide +kernel
theorem dX6_findGood_53 : decode cX6_findGood 53 = .ok (.ifCond .lt 48, 3) := by decide +kernel
theorem dX6_findGood_56 : decode cX6_findGood 56 = .ok (.iload 4, 2) := by decide +kernel
theorem dX6_findGood_58 : decode cX6_findGood 58 = .ok (.bipush 6, 2) := by decide +kernel
theorem dX6_findGood_60 : decode cX6_findGood 60 = .ok (.irem, 1) := by decide +kernel
theorem dX6_findGood_61 : decode cX6_findGood 61 = .ok (.iconst 2, 1) := by decide +kernel
theorem dX6_findGood_62 : decode cX6_findGood 62 = .ok (.if_icmp .ge 33, 3) := by decide +kernel
theorem dX6_findGood_65 : decode cX6_findGood 65 = .ok (.aload_n 0, 1) := by decide +kernel
theorem dX6_findGood_66 : decode cX6_findGood 66 = .ok (.iload 4, 2) := by decide +kernel
theorem dX6_findGood_68 : decode cX6_findGood 68 = .ok (.invokevirtual 64, 3) := by decide +kernel
theorem dX6_findGood_71 : decode cX6_findGood 71 = .ok (.ifCond .eq 24, 3) := by decide +kernel
theorem dX6_findGood_74 : decode cX6_findGood 74 = .ok (.aload_n 0, 1) := by decide +kernel
theorem dX6_findGood_75 : decode cX6_findGood 75 = .ok (.iload 4, 2) := by decide +kernel
theorem dX6_findGood_77 : decode cX6_findGood 77 = .ok (.invokevirtual 68, 3) := by decide +kernel
theorem dX6_findGood_80 : decode cX6_findGood 80 = .ok (.iconst 1, 1) := by decide +kernel
theorem dX6_findGood_81 : decode cX6_findGood 81 = .ok (.iload_n 2, 1) := by decide +kernel
theorem dX6_findGood_82 : decode cX6_findGood 82 = .ok (.ishl, 1) := by decide +kernel
theorem dX6_findGood_83 : decode cX6_findGood 83 = .ok (.if_icmp .ne 12, 3) := by decide +kernel
theorem dX6_findGood_86 : decode cX6_findGood 86 = .ok (.iconst 1, 1) := by decide +kernel
theorem dX6_findGood_87 : decode cX6_findGood 87 = .ok (.istore_n 3, 1) := by decide +kernel
theorem dX6_findGood_88 : decode cX6_findGood 88 = .ok (.aload_n 0, 1) := by decide +kernel
theorem dX6_findGood_89 : decode cX6_findGood 89 = .ok (.iload_n 1, 1) := by decide +kernel
theorem dX6_findGood_90 : decode cX6_findGood 90 = .ok (.iload 4, 2) := by decide +kernel
theorem dX6_findGood_92 : decode cX6_findGood 92 = .ok (.invokevirtual 100, 3) := by decide +kernel
theorem dX6_findGood_95 : decode cX6_findGood 95 = .ok (.iinc 4 1, 3) := by decide +kernel
theorem dX6_findGood_98 : decode cX6_findGood 98 = .ok (.goto (-53), 3) := by decide +kernel
theorem dX6_findGood_101 : decode cX6_findGood 101 = .ok (.iload_n 3, 1) := by decide +kernel
theorem dX6_findGood_102 : decode cX6_findGood 102 = .ok (.ifCond .ne 9, 3) := by decide +kernel
theorem dX6_findGood_105 : decode cX6_findGood 105 = .ok (.aload_n 0, 1) := by decide +kernel
theorem dX6_findGood_106 : decode cX6_findGood 106 = .ok (.iload_n 1, 1) := by decide +kernel
theorem dX6_findGood_107 : decode cX6_findGood 107 = .ok (.iconst (-1), 1) := by decide +kernel
theorem dX6_findGood_108 : decode cX6_findGood 108 = .ok (.invokevirtual 100, 3) := by decide +kernel
theorem dX6_findGood_111 : decode cX6_findGood 111 = .ok (.return_, 1) := by decide +kernel
theorem dX6_good_0 : decode cX6_good 0 = .ok (.aload_n 0, 1) := by decide +kernel
theorem dX6_good_1 : decode cX6_good 1 = .ok (.iload_n 1, 1) := by decide +kernel
theorem dX6_good_2 : decode cX6_good 2 = .ok (.invokevirtual 79, 3) := by decide +kernel
theorem dX6_good_5 : decode cX6_good 5 = .ok (.ifCond .eq 12, 3) := by decide +kernel
theorem dX6_good_8 : decode cX6_good 8 = .ok (.iload_n 2, 1) := by decide +kernel
theorem dX6_good_9 : decode cX6_good 9 = .ok (.iconst 0, 1) := by decide +kernel
theorem dX6_good_10 : decode cX6_good 10 = .ok (.iconst 3, 1) := by decide +kernel
theorem dX6_good_11 : decode cX6_good 11 = .ok (.invokestatic 52, 3) := by decide +kernel
theorem dX6_good_14 : decode cX6_good 14 = .ok (.ifCond .ne 5, 3) := by decide +kernel
theorem dX6_good_17 : decode cX6_good 17 = .ok (.iconst (-1), 1) := by decide +kernel
theorem dX6_good_18 : decode cX6_good 18 = .ok (.ireturn, 1) := by decide +kernel
theorem dX6_good_19 : decode cX6_good 19 = .ok (.aload_n 0, 1) := by decide +kernel
theorem dX6_good_20 : decode cX6_good 20 = .ok (.iload_n 1, 1) := by decide +kernel
theorem dX6_good_21 : decode cX6_good 21 = .ok (.invokevirtual 104, 3) := by decide +kernel
theorem dX6_good_24 : decode cX6_good 24 = .ok (.iload_n 2, 1) := by decide +kernel
theorem dX6_good_25 : decode cX6_good 25 = .ok (.ifCond .ne 12, 3) := by decide +kernel
theorem dX6_good_28 : decode cX6_good 28 = .ok (.aload_n 0, 1) := by decide +kernel
theorem dX6_good_29 : decode cX6_good 29 = .ok (.getfield 19, 3) := by decide +kernel
theorem dX6_good_32 : decode cX6_good 32 = .ok (.iload_n 1, 1) := by decide +kernel
theorem dX6_good_33 : decode cX6_good 33 = .ok (.iaload, 1) := by decide +kernel
theorem dX6_good_34 : decode cX6_good 34 = .ok (.goto 37, 3) := by decide +kernel
theorem dX6_good_37 : decode cX6_good 37 = .ok (.iload_n 2, 1) := by decide +kernel
theorem dX6_good_38 : decode cX6_good 38 = .ok (.iconst 1, 1) := by decide +kernel
theorem dX6_good_39 : decode cX6_good 39 = .ok (.if_icmp .ne 12, 3) := by decide +kernel
theorem dX6_good_42 : decode cX6_good 42 = .ok (.aload_n 0, 1) := by decide +kernel
theorem dX6_good_43 : decode cX6_good 43 = .ok (.getfield 22, 3) := by decide +kernel
theorem dX6_good_46 : decode cX6_good 46 = .ok (.iload_n 1, 1) := by decide +kernel
theorem dX6_good_47 : decode cX6_good 47 = .ok (.iaload, 1) := by decide +kernel
theorem dX6_good_48 : decode cX6_good 48 = .ok (.goto 23, 3) := by decide +kernel
theorem dX6_good_51 : decode cX6_good 51 = .ok (.iload_n 2, 1) := by decide +kernel
theorem dX6_good_52 : decode cX6_good 52 = .ok (.iconst 2, 1) := by decide +kernel
theorem dX6_good_53 : decode cX6_good 53 = .ok (.if_icmp .ne 12, 3) := by decide +kernel
theorem dX6_good_56 : decode cX6_good 56 = .ok (.aload_n 0, 1) := by decide +kernel
theorem dX6_good_57 : decode cX6_good 57 = .ok (.getfield 25, 3) := by decide +kernel
theorem dX6_good_60 : decode cX6_good 60 = .ok (.iload_n 1, 1) := by decide +kernel
theorem dX6_good_61 : decode cX6_good 61 = .ok (.iaload, 1) := by decide +kernel
theorem dX6_good_62 : decode cX6_good 62 = .ok (.goto 9, 3) := by decide +kernel
theorem dX6_good_65 : decode cX6_good 65 = .ok (.aload_n 0, 1) := by decide +kernel
theorem dX6_good_66 : decode cX6_good 66 = .ok (.getfield 28, 3) := by decide +kernel
theorem dX6_good_69 : decode cX6_good 69 = .ok (.iload_n 1, 1) := by decide +kernel
theorem dX6_good_70 : decode cX6_good 70 = .ok (.iaload, 1) := by decide +kernel
theorem dX6_good_71 : decode cX6_good 71 = .ok (.ireturn, 1) := by decide +kernel
theorem dX6_button_0 : decode cX6_button 0 = .ok (.aload_n 0, 1) := by decide +kernel
theorem dX6_button_1 : decode cX6_button 1 = .ok (.iload_n 1, 1) := by decide +kernel
theorem dX6_button_2 : decode cX6_button 2 = .ok (.invokevirtual 79, 3) := by decide +kernel
theorem dX6_button_5 : decode cX6_button 5 = .ok (.ifCond .ne 5, 3) := by decide +kernel
theorem dX6_button_8 : decode cX6_button 8 = .ok (.iconst (-1), 1) := by decide +kernel
theorem dX6_button_9 : decode cX6_button 9 = .ok (.ireturn, 1) := by decide +kernel
theorem dX6_button_10 : decode cX6_button 10 = .ok (.aload_n 0, 1) := by decide +kernel
theorem dX6_button_11 : decode cX6_button 11 = .ok (.iload_n 1, 1) := by decide +kernel
theorem dX6_button_12 : decode cX6_button 12 = .ok (.invokevirtual 104, 3) := by decide +kernel
theorem dX6_button_15 : decode cX6_button 15 = .ok (.iload_n 2, 1) := by decide +kernel
theorem dX6_button_16 : decode cX6_button 16 = .ok (.iconst 0, 1) := by decide +kernel
theorem dX6_button_17 : decode cX6_button 17 = .ok (.aload_n 0, 1) := by decide +kernel
theorem dX6_button_18 : decode cX6_button 18 = .ok (.getfield 28, 3) := by decide +kernel
theorem dX6_button_21 : decode cX6_button 21 = .ok (.iload_n 1, 1) := by decide +kernel
theorem dX6_button_22 : decode cX6_button 22 = .ok (.iaload, 1) := by decide +kernel
theorem dX6_button_23 : decode cX6_button 23 = .ok (.iconst 1, 1) := by decide +kernel
theorem dX6_button_24 : decode cX6_button 24 = .ok (.isub, 1) := by decide +kernel
theorem dX6_button_25 : decode cX6_button 25 = .ok (.invokestatic 52, 3) := by decide +kernel
theorem dX6_button_28 : decode cX6_button 28 = .ok (.ifCond .eq 37, 3) := by decide +kernel
theorem dX6_button_31 : decode cX6_button 31 = .ok (.iload_n 3, 1) := by decide +kernel
theorem dX6_button_32 : decode cX6_button 32 = .ok (.iconst 0, 1) := by decide +kernel
theorem dX6_button_33 : decode cX6_button 33 = .ok (.aload_n 0, 1) := by decide +kernel
theorem dX6_button_34 : decode cX6_button 34 = .ok (.getfield 25, 3) := by decide +kernel
theorem dX6_button_37 : decode cX6_button 37 = .ok (.iload_n 1, 1) := by decide +kernel
theorem dX6_button_38 : decode cX6_button 38 = .ok (.iaload, 1) := by decide +kernel
theorem dX6_button_39 : decode cX6_button 39 = .ok (.iconst 1, 1) := by decide +kernel
theorem dX6_button_40 : decode cX6_button 40 = .ok (.isub, 1) := by decide +kernel
theorem dX6_button_41 : decode cX6_button 41 = .ok (.invokestatic 52, 3) := by decide +kernel
theorem dX6_button_44 : decode cX6_button 44 = .ok (.ifCond .eq 21, 3) := by decide +kernel
theorem dX6_button_47 : decode cX6_button 47 = .ok (.aload_n 0, 1) := by decide +kernel
theorem dX6_button_48 : decode cX6_button 48 = .ok (.getfield 31, 3) := by decide +kernel
theorem dX6_button_51 : decode cX6_button 51 = .ok (.bipush 60, 2) := by decide +kernel
theorem dX6_button_53 : decode cX6_button 53 = .ok (.iload_n 1, 1) := by decide +kernel
theorem dX6_button_54 : decode cX6_button 54 = .ok (.imul, 1) := by decide +kernel
theorem dX6_button_55 : decode cX6_button 55 = .ok (.iconst 3, 1) := by decide +kernel
theorem dX6_button_56 : decode cX6_button 56 = .ok (.iload_n 2, 1) := by decide +kernel
theorem dX6_button_57 : decode cX6_button 57 = .ok (.imul, 1) := by decide +kernel
theorem dX6_button_58 : decode cX6_button 58 = .ok (.iadd, 1) := by decide +kernel
theorem dX6_button_59 : decode cX6_button 59 = .ok (.iload_n 3, 1) := by decide +kernel
theorem dX6_button_60 : decode cX6_button 60 = .ok (.iadd, 1) := by decide +kernel
theorem dX6_button_61 : decode cX6_button 61 = .ok (.iaload, 1) := by decide +kernel
theorem dX6_button_62 : decode cX6_button 62 = .ok (.goto 5, 3) := by decide +kernel
theorem dX6_button_65 : decode cX6_button 65 = .ok (.bipush (-3), 2) := by decide +kernel
theorem dX6_button_67 : decode cX6_button 67 = .ok (.ireturn, 1) := by decide +kernel
theorem dX6_placeOf_0 : decode cX6_placeOf 0 = .ok (.aload_n 0, 1) := by decide +kernel
theorem dX6_placeOf_1 : decode cX6_placeOf 1 = .ok (.getfield 31, 3) := by decide +kernel
theorem dX6_placeOf_4 : decode cX6_placeOf 4 = .ok (.bipush 60, 2) := by decide +kernel
theorem dX6_placeOf_6 : decode cX6_placeOf 6 = .ok (.iload_n 1, 1) := by decide +kernel
theorem dX6_placeOf_7 : decode cX6_placeOf 7 = .ok (.imul, 1) := by decide +kernel
theorem dX6_placeOf_8 : decode cX6_placeOf 8 = .ok (.iconst 3, 1) := by decide +kernel
theorem dX6_placeOf_9 : decode cX6_placeOf 9 = .ok (.iload_n 2, 1) := by decide +kernel
theorem dX6_placeOf_10 : decode cX6_placeOf 10 = .ok (.imul, 1) := by decide +kernel
theorem dX6_placeOf_11 : decode cX6_placeOf 11 = .ok (.iadd, 1) := by decide +kernel
theorem dX6_placeOf_12 : decode cX6_placeOf 12 = .ok (.iaload, 1) := by decide +kernel
theorem dX6_placeOf_13 : decode cX6_placeOf 13 = .ok (.bipush 6, 2) := by decide +kernel
theorem dX6_placeOf_15 : decode cX6_placeOf 15 = .ok (.idiv, 1) := by decide +kernel
theorem dX6_placeOf_16 : decode cX6_placeOf 16 = .ok (.ireturn, 1) := by decide +kernel
theorem dX6_away_0 : decode cX6_away 0 = .ok (.iload_n 0, 1) := by decide +kernel
theorem dX6_away_1 : decode cX6_away 1 = .ok (.iload_n 1, 1) := by decide +kernel
theorem dX6_away_2 : decode cX6_away 2 = .ok (.if_icmp .ge 9, 3) := by decide +kernel
theorem dX6_away_5 : decode cX6_away 5 = .ok (.iload_n 1, 1) := by decide +kernel
theorem dX6_away_6 : decode cX6_away 6 = .ok (.iload_n 0, 1) := by decide +kernel
theorem dX6_away_7 : decode cX6_away 7 = .ok (.isub, 1) := by decide +kernel
theorem dX6_away_8 : decode cX6_away 8 = .ok (.goto 6, 3) := by decide +kernel
theorem dX6_away_11 : decode cX6_away 11 = .ok (.iload_n 0, 1) := by decide +kernel
theorem dX6_away_12 : decode cX6_away 12 = .ok (.iload_n 1, 1) := by decide +kernel
theorem dX6_away_13 : decode cX6_away 13 = .ok (.isub, 1) := by decide +kernel
theorem dX6_away_14 : decode cX6_away 14 = .ok (.ireturn, 1) := by decide +kernel
theorem dX6_nextWith_0 : decode cX6_nextWith 0 = .ok (.iload_n 1, 1) := by decide +kernel
theorem dX6_nextWith_1 : decode cX6_nextWith 1 = .ok (.istore_n 2, 1) := by decide +kernel
theorem dX6_nextWith_2 : decode cX6_nextWith 2 = .ok (.iload_n 2, 1) := by decide +kernel
theorem dX6_nextWith_3 : decode cX6_nextWith 3 = .ok (.aload_n 0, 1) := by decide +kernel
theorem dX6_nextWith_4 : decode cX6_nextWith 4 = .ok (.getfield 7, 3) := by decide +kernel
theorem dX6_nextWith_7 : decode cX6_nextWith 7 = .ok (.iconst 5, 1) := by decide +kernel
theorem dX6_nextWith_8 : decode cX6_nextWith 8 = .ok (.iaload, 1) := by decide +kernel
theorem dX6_nextWith_9 : decode cX6_nextWith 9 = .ok (.if_icmp .ge 18, 3) := by decide +kernel
theorem dX6_nextWith_12 : decode cX6_nextWith 12 = .ok (.aload_n 0, 1) := by decide +kernel
theorem dX6_nextWith_13 : decode cX6_nextWith 13 = .ok (.getfield 25, 3) := by decide +kernel
theorem dX6_nextWith_16 : decode cX6_nextWith 16 = .ok (.iload_n 2, 1) := by decide +kernel
theorem dX6_nextWith_17 : decode cX6_nextWith 17 = .ok (.iaload, 1) := by decide +kernel
theorem dX6_nextWith_18 : decode cX6_nextWith 18 = .ok (.ifCond .ne 9, 3) := by decide +kernel
theorem dX6_nextWith_21 : decode cX6_nextWith 21 = .ok (.iinc 2 1, 3) := by decide +kernel
theorem dX6_nextWith_24 : decode cX6_nextWith 24 = .ok (.goto (-22), 3) := by decide +kernel
theorem dX6_nextWith_27 : decode cX6_nextWith 27 = .ok (.iload_n 2, 1) := by decide +kernel
theorem dX6_nextWith_28 : decode cX6_nextWith 28 = .ok (.ireturn, 1) := by decide +kernel
theorem dX6_behind_0 : decode cX6_behind 0 = .ok (.aload_n 0, 1) := by decide +kernel
theorem dX6_behind_1 : decode cX6_behind 1 = .ok (.iload_n 1, 1) := by decide +kernel
theorem dX6_behind_2 : decode cX6_behind 2 = .ok (.iconst 1, 1) := by decide +kernel
theorem dX6_behind_3 : decode cX6_behind 3 = .ok (.iadd, 1) := by decide +kernel
theorem dX6_behind_4 : decode cX6_behind 4 = .ok (.invokevirtual 107, 3) := by decide +kernel
theorem dX6_behind_7 : decode cX6_behind 7 = .ok (.istore_n 3, 1) := by decide +kernel
theorem dX6_behind_8 : decode cX6_behind 8 = .ok (.iload_n 3, 1) := by decide +kernel
theorem dX6_behind_9 : decode cX6_behind 9 = .ok (.aload_n 0, 1) := by decide +kernel
theorem dX6_behind_10 : decode cX6_behind 10 = .ok (.getfield 7, 3) := by decide +kernel
theorem dX6_behind_13 : decode cX6_behind 13 = .ok (.iconst 5, 1) := by decide +kernel
theorem dX6_behind_14 : decode cX6_behind 14 = .ok (.iaload, 1) := by decide +kernel
theorem dX6_behind_15 : decode cX6_behind 15 = .ok (.if_icmp .ne 5, 3) := by decide +kernel
theorem dX6_behind_18 : decode cX6_behind 18 = .ok (.iconst 0, 1) := by decide +kernel
theorem dX6_behind_19 : decode cX6_behind 19 = .ok (.ireturn, 1) := by decide +kernel
theorem dX6_behind_20 : decode cX6_behind 20 = .ok (.ldc 110, 2) := by decide +kernel
theorem dX6_behind_22 : decode cX6_behind 22 = .ok (.istore 4, 2) := by decide +kernel
theorem dX6_behind_24 : decode cX6_behind 24 = .ok (.iconst 0, 1) := by decide +kernel
theorem dX6_behind_25 : decode cX6_behind 25 = .ok (.istore 5, 2) := by decide +kernel
theorem dX6_behind_27 : decode cX6_behind 27 = .ok (.iload 5, 2) := by decide +kernel
theorem dX6_behind_29 : decode cX6_behind 29 = .ok (.aload_n 0, 1) := by decide +kernel
theorem dX6_behind_30 : decode cX6_behind 30 = .ok (.getfield 28, 3) := by decide +kernel
theorem dX6_behind_33 : decode cX6_behind 33 = .ok (.iload_n 3, 1) := by decide +kernel
theorem dX6_behind_34 : decode cX6_behind 34 = .ok (.iaload, 1) := by decide +kernel
theorem dX6_behind_35 : decode cX6_behind 35 = .ok (.if_icmp .ge 56, 3) := by decide +kernel
theorem dX6_behind_38 : decode cX6_behind 38 = .ok (.aload_n 0, 1) := by decide +kernel
theorem dX6_behind_39 : decode cX6_behind 39 = .ok (.iload_n 1, 1) := by decide +kernel
theorem dX6_behind_40 : decode cX6_behind 40 = .ok (.iload_n 2, 1) := by decide +kernel
theorem dX6_behind_41 : decode cX6_behind 41 = .ok (.invokevirtual 111, 3) := by decide +kernel
theorem dX6_behind_44 : decode cX6_behind 44 = .ok (.aload_n 0, 1) := by decide +kernel
theorem dX6_behind_45 : decode cX6_behind 45 = .ok (.iload_n 3, 1) := by decide +kernel
theorem dX6_behind_46 : decode cX6_behind 46 = .ok (.iload 5, 2) := by decide +kernel
theorem dX6_behind_48 : decode cX6_behind 48 = .ok (.invokevirtual 111, 3) := by decide +kernel
theorem dX6_behind_51 : decode cX6_behind 51 = .ok (.invokestatic 115, 3) := by decide +kernel
theorem dX6_behind_54 : decode cX6_behind 54 = .ok (.aload_n 0, 1) := by decide +kernel
theorem dX6_behind_55 : decode cX6_behind 55 = .ok (.getfield 37, 3) := by decide +kernel
theorem dX6_behind_58 : decode cX6_behind 58 = .ok (.bipush 20, 2) := by decide +kernel
theorem dX6_behind_60 : decode cX6_behind 60 = .ok (.iload_n 3, 1) := by decide +kernel
theorem dX6_behind_61 : decode cX6_behind 61 = .ok (.imul, 1) := by decide +kernel
theorem dX6_behind_62 : decode cX6_behind 62 = .ok (.iload 5, 2) := by decide +kernel
theorem dX6_behind_64 : decode cX6_behind 64 = .ok (.iadd, 1) := by decide +kernel
theorem dX6_behind_65 : decode cX6_behind 65 = .ok (.iaload, 1) := by decide +kernel
theorem dX6_behind_66 : decode cX6_behind 66 = .ok (.iadd, 1) := by decide +kernel
theorem dX6_behind_67 : decode cX6_behind 67 = .ok (.istore 6, 2) := by decide +kernel
theorem dX6_behind_69 : decode cX6_behind 69 = .ok (.iload 6, 2) := by decide +kernel
theorem dX6_behind_71 : decode cX6_behind 71 = .ok (.iload 4, 2) := by decide +kernel
theorem dX6_behind_73 : decode cX6_behind 73 = .ok (.if_icmp .ge 8, 3) := by decide +kernel
theorem dX6_behind_76 : decode cX6_behind 76 = .ok (.iload 6, 2) := by decide +kernel
theorem dX6_behind_78 : decode cX6_behind 78 = .ok (.goto 5, 3) := by decide +kernel
theorem dX6_behind_81 : decode cX6_behind 81 = .ok (.iload 4, 2) := by decide +kernel
theorem dX6_behind_83 : decode cX6_behind 83 = .ok (.istore 4, 2) := by decide +kernel
theorem dX6_behind_85 : decode cX6_behind 85 = .ok (.iinc 5 1, 3) := by decide +kernel
theorem dX6_behind_88 : decode cX6_behind 88 = .ok (.goto (-61), 3) := by decide +kernel
theorem dX6_behind_91 : decode cX6_behind 91 = .ok (.iload 4, 2) := by decide +kernel
theorem dX6_behind_93 : decode cX6_behind 93 = .ok (.ireturn, 1) := by decide +kernel
theorem dX6_findHand_0 : decode cX6_findHand 0 = .ok (.aload_n 0, 1) := by decide +kernel
theorem dX6_findHand_1 : decode cX6_findHand 1 = .ok (.getfield 7, 3) := by decide +kernel
theorem dX6_findHand_4 : decode cX6_findHand 4 = .ok (.iconst 5, 1) := by decide +kernel
theorem dX6_findHand_5 : decode cX6_findHand 5 = .ok (.iaload, 1) := by decide +kernel
theorem dX6_findHand_6 : decode cX6_findHand 6 = .ok (.iconst 1, 1) := by decide +kernel
theorem dX6_findHand_7 : decode cX6_findHand 7 = .ok (.isub, 1) := by decide +kernel
theorem dX6_findHand_8 : decode cX6_findHand 8 = .ok (.istore_n 1, 1) := by decide +kernel
theorem dX6_findHand_9 : decode cX6_findHand 9 = .ok (.iload_n 1, 1) := by decide +kernel
theorem dX6_findHand_10 : decode cX6_findHand 10 = .ok (.ifCond .lt 58, 3) := by decide +kernel
theorem dX6_findHand_13 : decode cX6_findHand 13 = .ok (.aload_n 0, 1) := by decide +kernel
theorem dX6_findHand_14 : decode cX6_findHand 14 = .ok (.iload_n 1, 1) := by decide +kernel
theorem dX6_findHand_15 : decode cX6_findHand 15 = .ok (.invokevirtual 104, 3) := by decide +kernel
theorem dX6_findHand_18 : decode cX6_findHand 18 = .ok (.iconst 0, 1) := by decide +kernel
theorem dX6_findHand_19 : decode cX6_findHand 19 = .ok (.istore_n 2, 1) := by decide +kernel
theorem dX6_findHand_20 : decode cX6_findHand 20 = .ok (.iload_n 2, 1) := by decide +kernel
theorem dX6_findHand_21 : decode cX6_findHand 21 = .ok (.aload_n 0, 1) := by decide +kernel
theorem dX6_findHand_22 : decode cX6_findHand 22 = .ok (.getfield 28, 3) := by decide +kernel
theorem dX6_findHand_25 : decode cX6_findHand 25 = .ok (.iload_n 1, 1) := by decide +kernel
theorem dX6_findHand_26 : decode cX6_findHand 26 = .ok (.iaload, 1) := by decide +kernel
theorem dX6_findHand_27 : decode cX6_findHand 27 = .ok (.if_icmp .ge 35, 3) := by decide +kernel
theorem dX6_findHand_30 : decode cX6_findHand 30 = .ok (.aload_n 0, 1) := by decide +kernel
theorem dX6_findHand_31 : decode cX6_findHand 31 = .ok (.getfield 25, 3) := by decide +kernel
theorem dX6_findHand_34 : decode cX6_findHand 34 = .ok (.iload_n 1, 1) := by decide +kernel
theorem dX6_findHand_35 : decode cX6_findHand 35 = .ok (.iaload, 1) := by decide +kernel
theorem dX6_findHand_36 : decode cX6_findHand 36 = .ok (.ifCond .le 26, 3) := by decide +kernel
theorem dX6_findHand_39 : decode cX6_findHand 39 = .ok (.aload_n 0, 1) := by decide +kernel
theorem dX6_findHand_40 : decode cX6_findHand 40 = .ok (.getfield 37, 3) := by decide +kernel
theorem dX6_findHand_43 : decode cX6_findHand 43 = .ok (.bipush 20, 2) := by decide +kernel
theorem dX6_findHand_45 : decode cX6_findHand 45 = .ok (.iload_n 1, 1) := by decide +kernel
theorem dX6_findHand_46 : decode cX6_findHand 46 = .ok (.imul, 1) := by decide +kernel
theorem dX6_findHand_47 : decode cX6_findHand 47 = .ok (.iload_n 2, 1) := by decide +kernel
theorem dX6_findHand_48 : decode cX6_findHand 48 = .ok (.iadd, 1) := by decide +kernel
theorem dX6_findHand_49 : decode cX6_findHand 49 = .ok (.aload_n 0, 1) := by decide +kernel
theorem dX6_findHand_50 : decode cX6_findHand 50 = .ok (.iload_n 1, 1) := by decide +kernel
theorem dX6_findHand_51 : decode cX6_findHand 51 = .ok (.iload_n 2, 1) := by decide +kernel
theorem dX6_findHand_52 : decode cX6_findHand 52 = .ok (.invokevirtual 118, 3) := by decide +kernel
theorem dX6_findHand_55 : decode cX6_findHand 55 = .ok (.iastore, 1) := by decide +kernel
theorem dX6_findHand_56 : decode cX6_findHand 56 = .ok (.iinc 2 1, 3) := by decide +kernel
theorem dX6_findHand_59 : decode cX6_findHand 59 = .ok (.goto (-39), 3) := by decide +kernel
theorem dX6_findHand_62 : decode cX6_findHand 62 = .ok (.iinc 1 (-1), 3) := by decide +kernel
theorem dX6_findHand_65 : decode cX6_findHand 65 = .ok (.goto (-56), 3) := by decide +kernel
theorem dX6_findHand_68 : decode cX6_findHand 68 = .ok (.aload_n 0, 1) := by decide +kernel
theorem dX6_findHand_69 : decode cX6_findHand 69 = .ok (.iconst 0, 1) := by decide +kernel
theorem dX6_findHand_70 : decode cX6_findHand 70 = .ok (.putfield 121, 3) := by decide +kernel
theorem dX6_findHand_73 : decode cX6_findHand 73 = .ok (.iconst (-1), 1) := by decide +kernel
theorem dX6_findHand_74 : decode cX6_findHand 74 = .ok (.istore_n 1, 1) := by decide +kernel
theorem dX6_findHand_75 : decode cX6_findHand 75 = .ok (.iconst 0, 1) := by decide +kernel
theorem dX6_findHand_76 : decode cX6_findHand 76 = .ok (.istore_n 2, 1) := by decide +kernel
theorem dX6_findHand_77 : decode cX6_findHand 77 = .ok (.iload_n 2, 1) := by decide +kernel
theorem dX6_findHand_78 : decode cX6_findHand 78 = .ok (.aload_n 0, 1) := by decide +kernel
theorem dX6_findHand_79 : decode cX6_findHand 79 = .ok (.getfield 7, 3) := by decide +kernel
theorem dX6_findHand_82 : decode cX6_findHand 82 = .ok (.iconst 5, 1) := by decide +kernel
theorem dX6_findHand_83 : decode cX6_findHand 83 = .ok (.iaload, 1) := by decide +kernel
theorem dX6_findHand_84 : decode cX6_findHand 84 = .ok (.if_icmp .ge 156, 3) := by decide +kernel
theorem dX6_findHand_87 : decode cX6_findHand 87 = .ok (.aload_n 0, 1) := by decide +kernel
theorem dX6_findHand_88 : decode cX6_findHand 88 = .ok (.getfield 40, 3) := by decide +kernel
theorem dX6_findHand_91 : decode cX6_findHand 91 = .ok (.iload_n 2, 1) := by decide +kernel
theorem dX6_findHand_92 : decode cX6_findHand 92 = .ok (.iconst 0, 1) := by decide +kernel
theorem dX6_findHand_93 : decode cX6_findHand 93 = .ok (.iastore, 1) := by decide +kernel
theorem dX6_findHand_94 : decode cX6_findHand 94 = .ok (.aload_n 0, 1) := by decide +kernel
theorem dX6_findHand_95 : decode cX6_findHand 95 = .ok (.getfield 25, 3) := by decide +kernel
theorem dX6_findHand_98 : decode cX6_findHand 98 = .ok (.iload_n 2, 1) := by decide +kernel
theorem dX6_findHand_99 : decode cX6_findHand 99 = .ok (.iaload, 1) := by decide +kernel
theorem dX6_findHand_100 : decode cX6_findHand 100 = .ok (.ifCond .ne 6, 3) := by decide +kernel
theorem dX6_findHand_103 : decode cX6_findHand 103 = .ok (.goto 131, 3) := by decide +kernel
theorem dX6_findHand_106 : decode cX6_findHand 106 = .ok (.ldc 110, 2) := by decide +kernel
theorem dX6_findHand_108 : decode cX6_findHand 108 = .ok (.istore_n 3, 1) := by decide +kernel
theorem dX6_findHand_109 : decode cX6_findHand 109 = .ok (.iconst 0, 1) := by decide +kernel
theorem dX6_findHand_110 : decode cX6_findHand 110 = .ok (.istore 4, 2) := by decide +kernel
theorem dX6_findHand_112 : decode cX6_findHand 112 = .ok (.iload 4, 2) := by decide +kernel
theorem dX6_findHand_114 : decode cX6_findHand 114 = .ok (.aload_n 0, 1) := by decide +kernel
theorem dX6_findHand_115 : decode cX6_findHand 115 = .ok (.getfield 28, 3) := by decide +kernel
theorem dX6_findHand_118 : decode cX6_findHand 118 = .ok (.iload_n 2, 1) := by decide +kernel
theorem dX6_findHand_119 : decode cX6_findHand 119 = .ok (.iaload, 1) := by decide +kernel
theorem dX6_findHand_120 : decode cX6_findHand 120 = .ok (.if_icmp .ge 70, 3) := by decide +kernel
theorem dX6_findHand_123 : decode cX6_findHand 123 = .ok (.aload_n 0, 1) := by decide +kernel
theorem dX6_findHand_124 : decode cX6_findHand 124 = .ok (.getfield 37, 3) := by decide +kernel
theorem dX6_findHand_127 : decode cX6_findHand 127 = .ok (.bipush 20, 2) := by decide +kernel
theorem dX6_findHand_129 : decode cX6_findHand 129 = .ok (.iload_n 2, 1) := by decide +kernel
theorem dX6_findHand_130 : decode cX6_findHand 130 = .ok (.imul, 1) := by decide +kernel
theorem dX6_findHand_131 : decode cX6_findHand 131 = .ok (.iload 4, 2) := by decide +kernel
theorem dX6_findHand_133 : decode cX6_findHand 133 = .ok (.iadd, 1) := by decide +kernel
theorem dX6_findHand_134 : decode cX6_findHand 134 = .ok (.iaload, 1) := by decide +kernel
theorem dX6_findHand_135 : decode cX6_findHand 135 = .ok (.iload_n 1, 1) := by decide +kernel
theorem dX6_findHand_136 : decode cX6_findHand 136 = .ok (.ifCond .ge 7, 3) := by decide +kernel
theorem dX6_findHand_139 : decode cX6_findHand 139 = .ok (.iconst 0, 1) := by decide +kernel
theorem dX6_findHand_140 : decode cX6_findHand 140 = .ok (.goto 24, 3) := by decide +kernel
theorem dX6_findHand_143 : decode cX6_findHand 143 = .ok (.aload_n 0, 1) := by decide +kernel
theorem dX6_findHand_144 : decode cX6_findHand 144 = .ok (.iload_n 1, 1) := by decide +kernel
theorem dX6_findHand_145 : decode cX6_findHand 145 = .ok (.aload_n 0, 1) := by decide +kernel
theorem dX6_findHand_146 : decode cX6_findHand 146 = .ok (.getfield 40, 3) := by decide +kernel
theorem dX6_findHand_149 : decode cX6_findHand 149 = .ok (.iload_n 1, 1) := by decide +kernel
theorem dX6_findHand_150 : decode cX6_findHand 150 = .ok (.iaload, 1) := by decide +kernel
theorem dX6_findHand_151 : decode cX6_findHand 151 = .ok (.invokevirtual 111, 3) := by decide +kernel
theorem dX6_findHand_154 : decode cX6_findHand 154 = .ok (.aload_n 0, 1) := by decide +kernel
theorem dX6_findHand_155 : decode cX6_findHand 155 = .ok (.iload_n 2, 1) := by decide +kernel
theorem dX6_findHand_156 : decode cX6_findHand 156 = .ok (.iload 4, 2) := by decide +kernel
theorem dX6_findHand_158 : decode cX6_findHand 158 = .ok (.invokevirtual 111, 3) := by decide +kernel
theorem dX6_findHand_161 : decode cX6_findHand 161 = .ok (.invokestatic 115, 3) := by decide +kernel
theorem dX6_findHand_164 : decode cX6_findHand 164 = .ok (.iadd, 1) := by decide +kernel
theorem dX6_findHand_165 : decode cX6_findHand 165 = .ok (.istore 5, 2) := by decide +kernel
theorem dX6_findHand_167 : decode cX6_findHand 167 = .ok (.iload 5, 2) := by decide +kernel
theorem dX6_findHand_169 : decode cX6_findHand 169 = .ok (.iload_n 3, 1) := by decide +kernel
theorem dX6_findHand_170 : decode cX6_findHand 170 = .ok (.if_icmp .ge 14, 3) := by decide +kernel
theorem dX6_findHand_173 : decode cX6_findHand 173 = .ok (.iload 5, 2) := by decide +kernel
theorem dX6_findHand_175 : decode cX6_findHand 175 = .ok (.istore_n 3, 1) := by decide +kernel
theorem dX6_findHand_176 : decode cX6_findHand 176 = .ok (.aload_n 0, 1) := by decide +kernel
theorem dX6_findHand_177 : decode cX6_findHand 177 = .ok (.getfield 40, 3) := by decide +kernel
theorem dX6_findHand_180 : decode cX6_findHand 180 = .ok (.iload_n 2, 1) := by decide +kernel
theorem dX6_findHand_181 : decode cX6_findHand 181 = .ok (.iload 4, 2) := by decide +kernel
theorem dX6_findHand_183 : decode cX6_findHand 183 = .ok (.iastore, 1) := by decide +kernel
theorem dX6_findHand_184 : decode cX6_findHand 184 = .ok (.iinc 4 1, 3) := by decide +kernel
theorem dX6_findHand_187 : decode cX6_findHand 187 = .ok (.goto (-75), 3) := by decide +kernel
theorem dX6_findHand_190 : decode cX6_findHand 190 = .ok (.aload_n 0, 1) := by decide +kernel
theorem dX6_findHand_191 : decode cX6_findHand 191 = .ok (.dup, 1) := by decide +kernel
theorem dX6_findHand_192 : decode cX6_findHand 192 = .ok (.getfield 121, 3) := by decide +kernel
theorem dX6_findHand_195 : decode cX6_findHand 195 = .ok (.iload_n 1, 1) := by decide +kernel
theorem dX6_findHand_196 : decode cX6_findHand 196 = .ok (.ifCond .ge 7, 3) := by decide +kernel
theorem dX6_findHand_199 : decode cX6_findHand 199 = .ok (.iconst 0, 1) := by decide +kernel
theorem dX6_findHand_200 : decode cX6_findHand 200 = .ok (.goto 28, 3) := by decide +kernel
theorem dX6_findHand_203 : decode cX6_findHand 203 = .ok (.aload_n 0, 1) := by decide +kernel
theorem dX6_findHand_204 : decode cX6_findHand 204 = .ok (.iload_n 1, 1) := by decide +kernel
theorem dX6_findHand_205 : decode cX6_findHand 205 = .ok (.aload_n 0, 1) := by decide +kernel
theorem dX6_findHand_206 : decode cX6_findHand 206 = .ok (.getfield 40, 3) := by decide +kernel
theorem dX6_findHand_209 : decode cX6_findHand 209 = .ok (.iload_n 1, 1) := by decide +kernel
theorem dX6_findHand_210 : decode cX6_findHand 210 = .ok (.iaload, 1) := by decide +kernel
theorem dX6_findHand_211 : decode cX6_findHand 211 = .ok (.invokevirtual 111, 3) := by decide +kernel
theorem dX6_findHand_214 : decode cX6_findHand 214 = .ok (.aload_n 0, 1) := by decide +kernel
theorem dX6_findHand_215 : decode cX6_findHand 215 = .ok (.iload_n 2, 1) := by decide +kernel
theorem dX6_findHand_216 : decode cX6_findHand 216 = .ok (.aload_n 0, 1) := by decide +kernel
theorem dX6_findHand_217 : decode cX6_findHand 217 = .ok (.getfield 40, 3) := by decide +kernel
theorem dX6_findHand_220 : decode cX6_findHand 220 = .ok (.iload_n 2, 1) := by decide +kernel
theorem dX6_findHand_221 : decode cX6_findHand 221 = .ok (.iaload, 1) := by decide +kernel
theorem dX6_findHand_222 : decode cX6_findHand 222 = .ok (.invokevirtual 111, 3) := by decide +kernel
theorem dX6_findHand_225 : decode cX6_findHand 225 = .ok (.invokestatic 115, 3) := by decide +kernel
theorem dX6_findHand_228 : decode cX6_findHand 228 = .ok (.iadd, 1) := by decide +kernel
theorem dX6_findHand_229 : decode cX6_findHand 229 = .ok (.putfield 121, 3) := by decide +kernel
theorem dX6_findHand_232 : decode cX6_findHand 232 = .ok (.iload_n 2, 1) := by decide +kernel
theorem dX6_findHand_233 : decode cX6_findHand 233 = .ok (.istore_n 1, 1) := by decide +kernel
theorem dX6_findHand_234 : decode cX6_findHand 234 = .ok (.iinc 2 1, 3) := by decide +kernel
theorem dX6_findHand_237 : decode cX6_findHand 237 = .ok (.goto (-160), 3) := by decide +kernel
theorem dX6_findHand_240 : decode cX6_findHand 240 = .ok (.return_, 1) := by decide +kernel
theorem dX6_hand_0 : decode cX6_hand 0 = .ok (.aload_n 0, 1) := by decide +kernel
theorem dX6_hand_1 : decode cX6_hand 1 = .ok (.iload_n 1, 1) := by decide +kernel
theorem dX6_hand_2 : decode cX6_hand 2 = .ok (.invokevirtual 79, 3) := by decide +kernel
theorem dX6_hand_5 : decode cX6_hand 5 = .ok (.ifCond .ne 5, 3) := by decide +kernel
theorem dX6_hand_8 : decode cX6_hand 8 = .ok (.iconst (-1), 1) := by decide +kernel
theorem dX6_hand_9 : decode cX6_hand 9 = .ok (.ireturn, 1) := by decide +kernel
theorem dX6_hand_10 : decode cX6_hand 10 = .ok (.aload_n 0, 1) := by decide +kernel
theorem dX6_hand_11 : decode cX6_hand 11 = .ok (.invokevirtual 124, 3) := by decide +kernel
theorem dX6_hand_14 : decode cX6_hand 14 = .ok (.aload_n 0, 1) := by decide +kernel
theorem dX6_hand_15 : decode cX6_hand 15 = .ok (.getfield 40, 3) := by decide +kernel
theorem dX6_hand_18 : decode cX6_hand 18 = .ok (.iload_n 1, 1) := by decide +kernel
theorem dX6_hand_19 : decode cX6_hand 19 = .ok (.iaload, 1) := by decide +kernel
theorem dX6_hand_20 : decode cX6_hand 20 = .ok (.ireturn, 1) := by decide +kernel
theorem dX6_jumps_0 : decode cX6_jumps 0 = .ok (.aload_n 0, 1) := by decide +kernel
theorem dX6_jumps_1 : decode cX6_jumps 1 = .ok (.invokevirtual 124, 3) := by decide +kernel
theorem dX6_jumps_4 : decode cX6_jumps 4 = .ok (.aload_n 0, 1) := by decide +kernel
theorem dX6_jumps_5 : decode cX6_jumps 5 = .ok (.getfield 121, 3) := by decide +kernel
theorem dX6_jumps_8 : decode cX6_jumps 8 = .ok (.ireturn, 1) := by decide +kernel
theorem dX6_heardAt_0 : decode cX6_heardAt 0 = .ok (.iconst 0, 1) := by decide +kernel
theorem dX6_heardAt_1 : decode cX6_heardAt 1 = .ok (.istore_n 2, 1) := by decide +kernel
theorem dX6_heardAt_2 : decode cX6_heardAt 2 = .ok (.iconst 0, 1) := by decide +kernel
theorem dX6_heardAt_3 : decode cX6_heardAt 3 = .ok (.istore_n 3, 1) := by decide +kernel
theorem dX6_heardAt_4 : decode cX6_heardAt 4 = .ok (.iload_n 3, 1) := by decide +kernel
theorem dX6_heardAt_5 : decode cX6_heardAt 5 = .ok (.aload_n 0, 1) := by decide +kernel
theorem dX6_heardAt_6 : decode cX6_heardAt 6 = .ok (.getfield 25, 3) := by decide +kernel
theorem dX6_heardAt_9 : decode cX6_heardAt 9 = .ok (.iload_n 1, 1) := by decide +kernel
theorem dX6_heardAt_10 : decode cX6_heardAt 10 = .ok (.iaload, 1) := by decide +kernel
theorem dX6_heardAt_11 : decode cX6_heardAt 11 = .ok (.if_icmp .ge 36, 3) := by decide +kernel
theorem dX6_heardAt_14 : decode cX6_heardAt 14 = .ok (.iload_n 2, 1) := by decide +kernel
theorem dX6_heardAt_15 : decode cX6_heardAt 15 = .ok (.aload_n 0, 1) := by decide +kernel
theorem dX6_heardAt_16 : decode cX6_heardAt 16 = .ok (.aload_n 0, 1) := by decide +kernel
theorem dX6_heardAt_17 : decode cX6_heardAt 17 = .ok (.getfield 31, 3) := by decide +kernel
theorem dX6_heardAt_20 : decode cX6_heardAt 20 = .ok (.bipush 60, 2) := by decide +kernel
theorem dX6_heardAt_22 : decode cX6_heardAt 22 = .ok (.iload_n 1, 1) := by decide +kernel
theorem dX6_heardAt_23 : decode cX6_heardAt 23 = .ok (.imul, 1) := by decide +kernel
theorem dX6_heardAt_24 : decode cX6_heardAt 24 = .ok (.iconst 3, 1) := by decide +kernel
theorem dX6_heardAt_25 : decode cX6_heardAt 25 = .ok (.aload_n 0, 1) := by decide +kernel
theorem dX6_heardAt_26 : decode cX6_heardAt 26 = .ok (.getfield 40, 3) := by decide +kernel
theorem dX6_heardAt_29 : decode cX6_heardAt 29 = .ok (.iload_n 1, 1) := by decide +kernel
theorem dX6_heardAt_30 : decode cX6_heardAt 30 = .ok (.iaload, 1) := by decide +kernel
theorem dX6_heardAt_31 : decode cX6_heardAt 31 = .ok (.imul, 1) := by decide +kernel
theorem dX6_heardAt_32 : decode cX6_heardAt 32 = .ok (.iadd, 1) := by decide +kernel
theorem dX6_heardAt_33 : decode cX6_heardAt 33 = .ok (.iload_n 3, 1) := by decide +kernel
theorem dX6_heardAt_34 : decode cX6_heardAt 34 = .ok (.iadd, 1) := by decide +kernel
theorem dX6_heardAt_35 : decode cX6_heardAt 35 = .ok (.iaload, 1) := by decide +kernel
theorem dX6_heardAt_36 : decode cX6_heardAt 36 = .ok (.invokevirtual 68, 3) := by decide +kernel
theorem dX6_heardAt_39 : decode cX6_heardAt 39 = .ok (.ior, 1) := by decide +kernel
theorem dX6_heardAt_40 : decode cX6_heardAt 40 = .ok (.istore_n 2, 1) := by decide +kernel
theorem dX6_heardAt_41 : decode cX6_heardAt 41 = .ok (.iinc 3 1, 3) := by decide +kernel
theorem dX6_heardAt_44 : decode cX6_heardAt 44 = .ok (.goto (-40), 3) := by decide +kernel
theorem dX6_heardAt_47 : decode cX6_heardAt 47 = .ok (.iload_n 2, 1) := by decide +kernel
theorem dX6_heardAt_48 : decode cX6_heardAt 48 = .ok (.ireturn, 1) := by decide +kernel
theorem dX6_sounds_0 : decode cX6_sounds 0 = .ok (.aload_n 0, 1) := by decide +kernel
theorem dX6_sounds_1 : decode cX6_sounds 1 = .ok (.iload_n 1, 1) := by decide +kernel
theorem dX6_sounds_2 : decode cX6_sounds 2 = .ok (.invokevirtual 79, 3) := by decide +kernel
theorem dX6_sounds_5 : decode cX6_sounds 5 = .ok (.ifCond .ne 5, 3) := by decide +kernel
theorem dX6_sounds_8 : decode cX6_sounds 8 = .ok (.iconst (-1), 1) := by decide +kernel
theorem dX6_sounds_9 : decode cX6_sounds 9 = .ok (.ireturn, 1) := by decide +kernel
theorem dX6_sounds_10 : decode cX6_sounds 10 = .ok (.aload_n 0, 1) := by decide +kernel
theorem dX6_sounds_11 : decode cX6_sounds 11 = .ok (.invokevirtual 124, 3) := by decide +kernel
theorem dX6_sounds_14 : decode cX6_sounds 14 = .ok (.aload_n 0, 1) := by decide +kernel
theorem dX6_sounds_15 : decode cX6_sounds 15 = .ok (.iload_n 1, 1) := by decide +kernel
theorem dX6_sounds_16 : decode cX6_sounds 16 = .ok (.invokevirtual 127, 3) := by decide +kernel
theorem dX6_sounds_19 : decode cX6_sounds 19 = .ok (.ireturn, 1) := by decide +kernel
theorem dX6_buttonAt_0 : decode cX6_buttonAt 0 = .ok (.iload_n 2, 1) := by decide +kernel
theorem dX6_buttonAt_1 : decode cX6_buttonAt 1 = .ok (.aload_n 0, 1) := by decide +kernel
theorem dX6_buttonAt_2 : decode cX6_buttonAt 2 = .ok (.getfield 25, 3) := by decide +kernel
theorem dX6_buttonAt_5 : decode cX6_buttonAt 5 = .ok (.iload_n 1, 1) := by decide +kernel
theorem dX6_buttonAt_6 : decode cX6_buttonAt 6 = .ok (.iaload, 1) := by decide +kernel
theorem dX6_buttonAt_7 : decode cX6_buttonAt 7 = .ok (.if_icmp .ge 26, 3) := by decide +kernel
theorem dX6_buttonAt_10 : decode cX6_buttonAt 10 = .ok (.aload_n 0, 1) := by decide +kernel
theorem dX6_buttonAt_11 : decode cX6_buttonAt 11 = .ok (.getfield 31, 3) := by decide +kernel
theorem dX6_buttonAt_14 : decode cX6_buttonAt 14 = .ok (.bipush 60, 2) := by decide +kernel
theorem dX6_buttonAt_16 : decode cX6_buttonAt 16 = .ok (.iload_n 1, 1) := by decide +kernel
theorem dX6_buttonAt_17 : decode cX6_buttonAt 17 = .ok (.imul, 1) := by decide +kernel
theorem dX6_buttonAt_18 : decode cX6_buttonAt 18 = .ok (.iconst 3, 1) := by decide +kernel
theorem dX6_buttonAt_19 : decode cX6_buttonAt 19 = .ok (.aload_n 0, 1) := by decide +kernel
theorem dX6_buttonAt_20 : decode cX6_buttonAt 20 = .ok (.getfield 40, 3) := by decide +kernel
theorem dX6_buttonAt_23 : decode cX6_buttonAt 23 = .ok (.iload_n 1, 1) := by decide +kernel
theorem dX6_buttonAt_24 : decode cX6_buttonAt 24 = .ok (.iaload, 1) := by decide +kernel
theorem dX6_buttonAt_25 : decode cX6_buttonAt 25 = .ok (.imul, 1) := by decide +kernel
theorem dX6_buttonAt_26 : decode cX6_buttonAt 26 = .ok (.iadd, 1) := by decide +kernel
theorem dX6_buttonAt_27 : decode cX6_buttonAt 27 = .ok (.iload_n 2, 1) := by decide +kernel
theorem dX6_buttonAt_28 : decode cX6_buttonAt 28 = .ok (.iadd, 1) := by decide +kernel
theorem dX6_buttonAt_29 : decode cX6_buttonAt 29 = .ok (.iaload, 1) := by decide +kernel
theorem dX6_buttonAt_30 : decode cX6_buttonAt 30 = .ok (.goto 4, 3) := by decide +kernel
theorem dX6_buttonAt_33 : decode cX6_buttonAt 33 = .ok (.iconst (-1), 1) := by decide +kernel
theorem dX6_buttonAt_34 : decode cX6_buttonAt 34 = .ok (.ireturn, 1) := by decide +kernel
theorem dX6_changed_0 : decode cX6_changed 0 = .ok (.iload_n 1, 1) := by decide +kernel
theorem dX6_changed_1 : decode cX6_changed 1 = .ok (.iload_n 2, 1) := by decide +kernel
theorem dX6_changed_2 : decode cX6_changed 2 = .ok (.invokestatic 56, 3) := by decide +kernel
theorem dX6_changed_5 : decode cX6_changed 5 = .ok (.ifCond .ne 5, 3) := by decide +kernel
theorem dX6_changed_8 : decode cX6_changed 8 = .ok (.iconst (-1), 1) := by decide +kernel
theorem dX6_changed_9 : decode cX6_changed 9 = .ok (.ireturn, 1) := by decide +kernel
theorem dX6_changed_10 : decode cX6_changed 10 = .ok (.aload_n 0, 1) := by decide +kernel
theorem dX6_changed_11 : decode cX6_changed 11 = .ok (.invokevirtual 124, 3) := by decide +kernel
theorem dX6_changed_14 : decode cX6_changed 14 = .ok (.iconst 0, 1) := by decide +kernel
theorem dX6_changed_15 : decode cX6_changed 15 = .ok (.istore_n 3, 1) := by decide +kernel
theorem dX6_changed_16 : decode cX6_changed 16 = .ok (.iload_n 3, 1) := by decide +kernel
theorem dX6_changed_17 : decode cX6_changed 17 = .ok (.iconst 3, 1) := by decide +kernel
theorem dX6_changed_18 : decode cX6_changed 18 = .ok (.aload_n 0, 1) := by decide +kernel
theorem dX6_changed_19 : decode cX6_changed 19 = .ok (.getfield 7, 3) := by decide +kernel
theorem dX6_changed_22 : decode cX6_changed 22 = .ok (.iconst 5, 1) := by decide +kernel
theorem dX6_changed_23 : decode cX6_changed 23 = .ok (.iaload, 1) := by decide +kernel
theorem dX6_changed_24 : decode cX6_changed 24 = .ok (.imul, 1) := by decide +kernel
theorem dX6_changed_25 : decode cX6_changed 25 = .ok (.if_icmp .ge 25, 3) := by decide +kernel
theorem dX6_changed_28 : decode cX6_changed 28 = .ok (.aload_n 0, 1) := by decide +kernel
theorem dX6_changed_29 : decode cX6_changed 29 = .ok (.getfield 43, 3) := by decide +kernel
theorem dX6_changed_32 : decode cX6_changed 32 = .ok (.iload_n 3, 1) := by decide +kernel
theorem dX6_changed_33 : decode cX6_changed 33 = .ok (.aload_n 0, 1) := by decide +kernel
theorem dX6_changed_34 : decode cX6_changed 34 = .ok (.iload_n 3, 1) := by decide +kernel
theorem dX6_changed_35 : decode cX6_changed 35 = .ok (.iconst 3, 1) := by decide +kernel
theorem dX6_changed_36 : decode cX6_changed 36 = .ok (.idiv, 1) := by decide +kernel
theorem dX6_changed_37 : decode cX6_changed 37 = .ok (.iload_n 3, 1) := by decide +kernel
theorem dX6_changed_38 : decode cX6_changed 38 = .ok (.iconst 3, 1) := by decide +kernel
theorem dX6_changed_39 : decode cX6_changed 39 = .ok (.irem, 1) := by decide +kernel
theorem dX6_changed_40 : decode cX6_changed 40 = .ok (.invokevirtual 130, 3) := by decide +kernel
theorem dX6_changed_43 : decode cX6_changed 43 = .ok (.iastore, 1) := by decide +kernel
theorem dX6_changed_44 : decode cX6_changed 44 = .ok (.iinc 3 1, 3) := by decide +kernel
theorem dX6_changed_47 : decode cX6_changed 47 = .ok (.goto (-31), 3) := by decide +kernel
theorem dX6_changed_50 : decode cX6_changed 50 = .ok (.aload_n 0, 1) := by decide +kernel
theorem dX6_changed_51 : decode cX6_changed 51 = .ok (.getfield 7, 3) := by decide +kernel
theorem dX6_changed_54 : decode cX6_changed 54 = .ok (.iconst 0, 1) := by decide +kernel
theorem dX6_changed_55 : decode cX6_changed 55 = .ok (.iaload, 1) := by decide +kernel
theorem dX6_changed_56 : decode cX6_changed 56 = .ok (.istore_n 3, 1) := by decide +kernel
theorem dX6_changed_57 : decode cX6_changed 57 = .ok (.aload_n 0, 1) := by decide +kernel
theorem dX6_changed_58 : decode cX6_changed 58 = .ok (.getfield 7, 3) := by decide +kernel
theorem dX6_changed_61 : decode cX6_changed 61 = .ok (.iconst 1, 1) := by decide +kernel
theorem dX6_changed_62 : decode cX6_changed 62 = .ok (.iaload, 1) := by decide +kernel
theorem dX6_changed_63 : decode cX6_changed 63 = .ok (.istore 4, 2) := by decide +kernel
theorem dX6_changed_65 : decode cX6_changed 65 = .ok (.aload_n 0, 1) := by decide +kernel
theorem dX6_changed_66 : decode cX6_changed 66 = .ok (.getfield 7, 3) := by decide +kernel
theorem dX6_changed_69 : decode cX6_changed 69 = .ok (.iconst 0, 1) := by decide +kernel
theorem dX6_changed_70 : decode cX6_changed 70 = .ok (.iload_n 1, 1) := by decide +kernel
theorem dX6_changed_71 : decode cX6_changed 71 = .ok (.iastore, 1) := by decide +kernel
theorem dX6_changed_72 : decode cX6_changed 72 = .ok (.aload_n 0, 1) := by decide +kernel
theorem dX6_changed_73 : decode cX6_changed 73 = .ok (.getfield 7, 3) := by decide +kernel
theorem dX6_changed_76 : decode cX6_changed 76 = .ok (.iconst 1, 1) := by decide +kernel
theorem dX6_changed_77 : decode cX6_changed 77 = .ok (.iload_n 2, 1) := by decide +kernel
theorem dX6_changed_78 : decode cX6_changed 78 = .ok (.iastore, 1) := by decide +kernel
theorem dX6_changed_79 : decode cX6_changed 79 = .ok (.aload_n 0, 1) := by decide +kernel
theorem dX6_changed_80 : decode cX6_changed 80 = .ok (.invokevirtual 124, 3) := by decide +kernel
theorem dX6_changed_83 : decode cX6_changed 83 = .ok (.iconst 0, 1) := by decide +kernel
theorem dX6_changed_84 : decode cX6_changed 84 = .ok (.istore 5, 2) := by decide +kernel
theorem dX6_changed_86 : decode cX6_changed 86 = .ok (.iconst 0, 1) := by decide +kernel
theorem dX6_changed_87 : decode cX6_changed 87 = .ok (.istore 6, 2) := by decide +kernel
theorem dX6_changed_89 : decode cX6_changed 89 = .ok (.iload 6, 2) := by decide +kernel
theorem dX6_changed_91 : decode cX6_changed 91 = .ok (.aload_n 0, 1) := by decide +kernel
theorem dX6_changed_92 : decode cX6_changed 92 = .ok (.getfield 7, 3) := by decide +kernel
theorem dX6_changed_95 : decode cX6_changed 95 = .ok (.iconst 5, 1) := by decide +kernel
theorem dX6_changed_96 : decode cX6_changed 96 = .ok (.iaload, 1) := by decide +kernel
theorem dX6_changed_97 : decode cX6_changed 97 = .ok (.if_icmp .ge 77, 3) := by decide +kernel
theorem dX6_changed_100 : decode cX6_changed 100 = .ok (.iconst 1, 1) := by decide +kernel
theorem dX6_changed_101 : decode cX6_changed 101 = .ok (.istore 7, 2) := by decide +kernel
theorem dX6_changed_103 : decode cX6_changed 103 = .ok (.iconst 0, 1) := by decide +kernel
theorem dX6_changed_104 : decode cX6_changed 104 = .ok (.istore 8, 2) := by decide +kernel
theorem dX6_changed_106 : decode cX6_changed 106 = .ok (.iload 8, 2) := by decide +kernel
theorem dX6_changed_108 : decode cX6_changed 108 = .ok (.iconst 3, 1) := by decide +kernel
theorem dX6_changed_109 : decode cX6_changed 109 = .ok (.if_icmp .ge 44, 3) := by decide +kernel
theorem dX6_changed_112 : decode cX6_changed 112 = .ok (.iload 7, 2) := by decide +kernel
theorem dX6_changed_114 : decode cX6_changed 114 = .ok (.ifCond .eq 30, 3) := by decide +kernel
theorem dX6_changed_117 : decode cX6_changed 117 = .ok (.aload_n 0, 1) := by decide +kernel
theorem dX6_changed_118 : decode cX6_changed 118 = .ok (.getfield 43, 3) := by decide +kernel
theorem dX6_changed_121 : decode cX6_changed 121 = .ok (.iconst 3, 1) := by decide +kernel
theorem dX6_changed_122 : decode cX6_changed 122 = .ok (.iload 6, 2) := by decide +kernel
theorem dX6_changed_124 : decode cX6_changed 124 = .ok (.imul, 1) := by decide +kernel
theorem dX6_changed_125 : decode cX6_changed 125 = .ok (.iload 8, 2) := by decide +kernel
theorem dX6_changed_127 : decode cX6_changed 127 = .ok (.iadd, 1) := by decide +kernel
theorem dX6_changed_128 : decode cX6_changed 128 = .ok (.iaload, 1) := by decide +kernel
theorem dX6_changed_129 : decode cX6_changed 129 = .ok (.aload_n 0, 1) := by decide +kernel
theorem dX6_changed_130 : decode cX6_changed 130 = .ok (.iload 6, 2) := by decide +kernel
theorem dX6_changed_132 : decode cX6_changed 132 = .ok (.iload 8, 2) := by decide +kernel
theorem dX6_changed_134 : decode cX6_changed 134 = .ok (.invokevirtual 130, 3) := by decide +kernel
theorem dX6_changed_137 : decode cX6_changed 137 = .ok (.if_icmp .ne 7, 3) := by decide +kernel
theorem dX6_changed_140 : decode cX6_changed 140 = .ok (.iconst 1, 1) := by decide +kernel
theorem dX6_changed_141 : decode cX6_changed 141 = .ok (.goto 4, 3) := by decide +kernel
theorem dX6_changed_144 : decode cX6_changed 144 = .ok (.iconst 0, 1) := by decide +kernel
theorem dX6_changed_145 : decode cX6_changed 145 = .ok (.istore 7, 2) := by decide +kernel
theorem dX6_changed_147 : decode cX6_changed 147 = .ok (.iinc 8 1, 3) := by decide +kernel
theorem dX6_changed_150 : decode cX6_changed 150 = .ok (.goto (-44), 3) := by decide +kernel
theorem dX6_changed_153 : decode cX6_changed 153 = .ok (.iload 5, 2) := by decide +kernel
theorem dX6_changed_155 : decode cX6_changed 155 = .ok (.iload 7, 2) := by decide +kernel
theorem dX6_changed_157 : decode cX6_changed 157 = .ok (.ifCond .eq 7, 3) := by decide +kernel
theorem dX6_changed_160 : decode cX6_changed 160 = .ok (.iconst 0, 1) := by decide +kernel
theorem dX6_changed_161 : decode cX6_changed 161 = .ok (.goto 4, 3) := by decide +kernel
theorem dX6_changed_164 : decode cX6_changed 164 = .ok (.iconst 1, 1) := by decide +kernel
theorem dX6_changed_165 : decode cX6_changed 165 = .ok (.iadd, 1) := by decide +kernel
theorem dX6_changed_166 : decode cX6_changed 166 = .ok (.istore 5, 2) := by decide +kernel
theorem dX6_changed_168 : decode cX6_changed 168 = .ok (.iinc 6 1, 3) := by decide +kernel
theorem dX6_changed_171 : decode cX6_changed 171 = .ok (.goto (-82), 3) := by decide +kernel
theorem dX6_changed_174 : decode cX6_changed 174 = .ok (.aload_n 0, 1) := by decide +kernel
theorem dX6_changed_175 : decode cX6_changed 175 = .ok (.getfield 7, 3) := by decide +kernel
theorem dX6_changed_178 : decode cX6_changed 178 = .ok (.iconst 0, 1) := by decide +kernel
theorem dX6_changed_179 : decode cX6_changed 179 = .ok (.iload_n 3, 1) := by decide +kernel
theorem dX6_changed_180 : decode cX6_changed 180 = .ok (.iastore, 1) := by decide +kernel
theorem dX6_changed_181 : decode cX6_changed 181 = .ok (.aload_n 0, 1) := by decide +kernel
theorem dX6_changed_182 : decode cX6_changed 182 = .ok (.getfield 7, 3) := by decide +kernel
theorem dX6_changed_185 : decode cX6_changed 185 = .ok (.iconst 1, 1) := by decide +kernel
theorem dX6_changed_186 : decode cX6_changed 186 = .ok (.iload 4, 2) := by decide +kernel
theorem dX6_changed_188 : decode cX6_changed 188 = .ok (.iastore, 1) := by decide +kernel
theorem dX6_changed_189 : decode cX6_changed 189 = .ok (.iload 5, 2) := by decide +kernel
theorem dX6_changed_191 : decode cX6_changed 191 = .ok (.ireturn, 1) := by decide +kernel
theorem dX6_findUses_0 : decode cX6_findUses 0 = .ok (.aload_n 0, 1) := by decide +kernel
theorem dX6_findUses_1 : decode cX6_findUses 1 = .ok (.invokevirtual 124, 3) := by decide +kernel
theorem dX6_findUses_4 : decode cX6_findUses 4 = .ok (.iconst 0, 1) := by decide +kernel
theorem dX6_findUses_5 : decode cX6_findUses 5 = .ok (.istore_n 1, 1) := by decide +kernel
theorem dX6_findUses_6 : decode cX6_findUses 6 = .ok (.iload_n 1, 1) := by decide +kernel
theorem dX6_findUses_7 : decode cX6_findUses 7 = .ok (.aload_n 0, 1) := by decide +kernel
theorem dX6_findUses_8 : decode cX6_findUses 8 = .ok (.getfield 7, 3) := by decide +kernel
theorem dX6_findUses_11 : decode cX6_findUses 11 = .ok (.iconst 5, 1) := by decide +kernel
theorem dX6_findUses_12 : decode cX6_findUses 12 = .ok (.iaload, 1) := by decide +kernel
theorem dX6_findUses_13 : decode cX6_findUses 13 = .ok (.if_icmp .ge 41, 3) := by decide +kernel
theorem dX6_findUses_16 : decode cX6_findUses 16 = .ok (.aload_n 0, 1) := by decide +kernel
theorem dX6_findUses_17 : decode cX6_findUses 17 = .ok (.getfield 46, 3) := by decide +kernel
theorem dX6_findUses_20 : decode cX6_findUses 20 = .ok (.iload_n 1, 1) := by decide +kernel
theorem dX6_findUses_21 : decode cX6_findUses 21 = .ok (.aload_n 0, 1) := by decide +kernel
theorem dX6_findUses_22 : decode cX6_findUses 22 = .ok (.getfield 13, 3) := by decide +kernel
theorem dX6_findUses_25 : decode cX6_findUses 25 = .ok (.iconst 4, 1) := by decide +kernel
theorem dX6_findUses_26 : decode cX6_findUses 26 = .ok (.iload_n 1, 1) := by decide +kernel
theorem dX6_findUses_27 : decode cX6_findUses 27 = .ok (.imul, 1) := by decide +kernel
theorem dX6_findUses_28 : decode cX6_findUses 28 = .ok (.iconst 2, 1) := by decide +kernel
theorem dX6_findUses_29 : decode cX6_findUses 29 = .ok (.iadd, 1) := by decide +kernel
theorem dX6_findUses_30 : decode cX6_findUses 30 = .ok (.iaload, 1) := by decide +kernel
theorem dX6_findUses_31 : decode cX6_findUses 31 = .ok (.aload_n 0, 1) := by decide +kernel
theorem dX6_findUses_32 : decode cX6_findUses 32 = .ok (.getfield 7, 3) := by decide +kernel
theorem dX6_findUses_35 : decode cX6_findUses 35 = .ok (.iconst 2, 1) := by decide +kernel
theorem dX6_findUses_36 : decode cX6_findUses 36 = .ok (.iaload, 1) := by decide +kernel
theorem dX6_findUses_37 : decode cX6_findUses 37 = .ok (.imul, 1) := by decide +kernel
theorem dX6_findUses_38 : decode cX6_findUses 38 = .ok (.aload_n 0, 1) := by decide +kernel
theorem dX6_findUses_39 : decode cX6_findUses 39 = .ok (.iload_n 1, 1) := by decide +kernel
theorem dX6_findUses_40 : decode cX6_findUses 40 = .ok (.invokevirtual 127, 3) := by decide +kernel
theorem dX6_findUses_43 : decode cX6_findUses 43 = .ok (.invokestatic 90, 3) := by decide +kernel
theorem dX6_findUses_46 : decode cX6_findUses 46 = .ok (.imul, 1) := by decide +kernel
theorem dX6_findUses_47 : decode cX6_findUses 47 = .ok (.iastore, 1) := by decide +kernel
theorem dX6_findUses_48 : decode cX6_findUses 48 = .ok (.iinc 1 1, 3) := by decide +kernel
theorem dX6_findUses_51 : decode cX6_findUses 51 = .ok (.goto (-45), 3) := by decide +kernel
theorem dX6_findUses_54 : decode cX6_findUses 54 = .ok (.return_, 1) := by decide +kernel
theorem dX6_use_0 : decode cX6_use 0 = .ok (.aload_n 0, 1) := by decide +kernel
theorem dX6_use_1 : decode cX6_use 1 = .ok (.iload_n 1, 1) := by decide +kernel
theorem dX6_use_2 : decode cX6_use 2 = .ok (.invokevirtual 79, 3) := by decide +kernel
theorem dX6_use_5 : decode cX6_use 5 = .ok (.ifCond .ne 5, 3) := by decide +kernel
theorem dX6_use_8 : decode cX6_use 8 = .ok (.iconst (-1), 1) := by decide +kernel
theorem dX6_use_9 : decode cX6_use 9 = .ok (.ireturn, 1) := by decide +kernel
theorem dX6_use_10 : decode cX6_use 10 = .ok (.aload_n 0, 1) := by decide +kernel
theorem dX6_use_11 : decode cX6_use 11 = .ok (.invokevirtual 133, 3) := by decide +kernel
theorem dX6_use_14 : decode cX6_use 14 = .ok (.aload_n 0, 1) := by decide +kernel
theorem dX6_use_15 : decode cX6_use 15 = .ok (.getfield 46, 3) := by decide +kernel
theorem dX6_use_18 : decode cX6_use 18 = .ok (.iload_n 1, 1) := by decide +kernel
theorem dX6_use_19 : decode cX6_use 19 = .ok (.iaload, 1) := by decide +kernel
theorem dX6_use_20 : decode cX6_use 20 = .ok (.ireturn, 1) := by decide +kernel
theorem dX6_costOf_0 : decode cX6_costOf 0 = .ok (.aload_n 0, 1) := by decide +kernel
theorem dX6_costOf_1 : decode cX6_costOf 1 = .ok (.getfield 7, 3) := by decide +kernel
theorem dX6_costOf_4 : decode cX6_costOf 4 = .ok (.iconst 5, 1) := by decide +kernel
theorem dX6_costOf_5 : decode cX6_costOf 5 = .ok (.iaload, 1) := by decide +kernel
theorem dX6_costOf_6 : decode cX6_costOf 6 = .ok (.istore_n 3, 1) := by decide +kernel
theorem dX6_costOf_7 : decode cX6_costOf 7 = .ok (.aload_n 0, 1) := by decide +kernel
theorem dX6_costOf_8 : decode cX6_costOf 8 = .ok (.getfield 7, 3) := by decide +kernel
theorem dX6_costOf_11 : decode cX6_costOf 11 = .ok (.iconst 4, 1) := by decide +kernel
theorem dX6_costOf_12 : decode cX6_costOf 12 = .ok (.iaload, 1) := by decide +kernel
theorem dX6_costOf_13 : decode cX6_costOf 13 = .ok (.istore 4, 2) := by decide +kernel
theorem dX6_costOf_15 : decode cX6_costOf 15 = .ok (.iconst 0, 1) := by decide +kernel
theorem dX6_costOf_16 : decode cX6_costOf 16 = .ok (.istore 5, 2) := by decide +kernel
theorem dX6_costOf_18 : decode cX6_costOf 18 = .ok (.iconst 0, 1) := by decide +kernel
theorem dX6_costOf_19 : decode cX6_costOf 19 = .ok (.istore 6, 2) := by decide +kernel
theorem dX6_costOf_21 : decode cX6_costOf 21 = .ok (.iload 6, 2) := by decide +kernel
theorem dX6_costOf_23 : decode cX6_costOf 23 = .ok (.iload_n 3, 1) := by decide +kernel
theorem dX6_costOf_24 : decode cX6_costOf 24 = .ok (.if_icmp .ge 143, 3) := by decide +kernel
theorem dX6_costOf_27 : decode cX6_costOf 27 = .ok (.iload_n 1, 1) := by decide +kernel
theorem dX6_costOf_28 : decode cX6_costOf 28 = .ok (.iload_n 3, 1) := by decide +kernel
theorem dX6_costOf_29 : decode cX6_costOf 29 = .ok (.iconst 1, 1) := by decide +kernel
theorem dX6_costOf_30 : decode cX6_costOf 30 = .ok (.isub, 1) := by decide +kernel
theorem dX6_costOf_31 : decode cX6_costOf 31 = .ok (.iload 6, 2) := by decide +kernel
theorem dX6_costOf_33 : decode cX6_costOf 33 = .ok (.isub, 1) := by decide +kernel
theorem dX6_costOf_34 : decode cX6_costOf 34 = .ok (.ishr, 1) := by decide +kernel
theorem dX6_costOf_35 : decode cX6_costOf 35 = .ok (.iconst 1, 1) := by decide +kernel
theorem dX6_costOf_36 : decode cX6_costOf 36 = .ok (.iand, 1) := by decide +kernel
theorem dX6_costOf_37 : decode cX6_costOf 37 = .ok (.iconst 1, 1) := by decide +kernel
theorem dX6_costOf_38 : decode cX6_costOf 38 = .ok (.if_icmp .ne 7, 3) := by decide +kernel
theorem dX6_costOf_41 : decode cX6_costOf 41 = .ok (.iconst 1, 1) := by decide +kernel
theorem dX6_costOf_42 : decode cX6_costOf 42 = .ok (.goto 4, 3) := by decide +kernel
theorem dX6_costOf_45 : decode cX6_costOf 45 = .ok (.iconst 0, 1) := by decide +kernel
theorem dX6_costOf_46 : decode cX6_costOf 46 = .ok (.istore 7, 2) := by decide +kernel
theorem dX6_costOf_48 : decode cX6_costOf 48 = .ok (.iload 6, 2) := by decide +kernel
theorem dX6_costOf_50 : decode cX6_costOf 50 = .ok (.ifCond .le 28, 3) := by decide +kernel
theorem dX6_costOf_53 : decode cX6_costOf 53 = .ok (.iload_n 1, 1) := by decide +kernel
theorem dX6_costOf_54 : decode cX6_costOf 54 = .ok (.iload_n 3, 1) := by decide +kernel
theorem dX6_costOf_55 : decode cX6_costOf 55 = .ok (.iload 6, 2) := by decide +kernel
theorem dX6_costOf_57 : decode cX6_costOf 57 = .ok (.isub, 1) := by decide +kernel
theorem dX6_costOf_58 : decode cX6_costOf 58 = .ok (.ishr, 1) := by decide +kernel
theorem dX6_costOf_59 : decode cX6_costOf 59 = .ok (.iconst 1, 1) := by decide +kernel
theorem dX6_costOf_60 : decode cX6_costOf 60 = .ok (.iand, 1) := by decide +kernel
theorem dX6_costOf_61 : decode cX6_costOf 61 = .ok (.iload_n 1, 1) := by decide +kernel
theorem dX6_costOf_62 : decode cX6_costOf 62 = .ok (.iload_n 3, 1) := by decide +kernel
theorem dX6_costOf_63 : decode cX6_costOf 63 = .ok (.iconst 1, 1) := by decide +kernel
theorem dX6_costOf_64 : decode cX6_costOf 64 = .ok (.isub, 1) := by decide +kernel
theorem dX6_costOf_65 : decode cX6_costOf 65 = .ok (.iload 6, 2) := by decide +kernel
theorem dX6_costOf_67 : decode cX6_costOf 67 = .ok (.isub, 1) := by decide +kernel
theorem dX6_costOf_68 : decode cX6_costOf 68 = .ok (.ishr, 1) := by decide +kernel
theorem dX6_costOf_69 : decode cX6_costOf 69 = .ok (.iconst 1, 1) := by decide +kernel
theorem dX6_costOf_70 : decode cX6_costOf 70 = .ok (.iand, 1) := by decide +kernel
theorem dX6_costOf_71 : decode cX6_costOf 71 = .ok (.if_icmp .eq 7, 3) := by decide +kernel
theorem dX6_costOf_74 : decode cX6_costOf 74 = .ok (.iconst 1, 1) := by decide +kernel
theorem dX6_costOf_75 : decode cX6_costOf 75 = .ok (.goto 4, 3) := by decide +kernel
theorem dX6_costOf_78 : decode cX6_costOf 78 = .ok (.iconst 0, 1) := by decide +kernel
theorem dX6_costOf_79 : decode cX6_costOf 79 = .ok (.istore 8, 2) := by decide +kernel
theorem dX6_costOf_81 : decode cX6_costOf 81 = .ok (.iload 4, 2) := by decide +kernel
theorem dX6_costOf_83 : decode cX6_costOf 83 = .ok (.iload 7, 2) := by decide +kernel
theorem dX6_costOf_85 : decode cX6_costOf 85 = .ok (.ifCond .eq 14, 3) := by decide +kernel
theorem dX6_costOf_88 : decode cX6_costOf 88 = .ok (.aload_n 0, 1) := by decide +kernel
theorem dX6_costOf_89 : decode cX6_costOf 89 = .ok (.getfield 46, 3) := by decide +kernel
theorem dX6_costOf_92 : decode cX6_costOf 92 = .ok (.iload 6, 2) := by decide +kernel
theorem dX6_costOf_94 : decode cX6_costOf 94 = .ok (.iaload, 1) := by decide +kernel
theorem dX6_costOf_95 : decode cX6_costOf 95 = .ok (.ineg, 1) := by decide +kernel
theorem dX6_costOf_96 : decode cX6_costOf 96 = .ok (.goto 10, 3) := by decide +kernel
theorem dX6_costOf_99 : decode cX6_costOf 99 = .ok (.aload_n 0, 1) := by decide +kernel
theorem dX6_costOf_100 : decode cX6_costOf 100 = .ok (.getfield 46, 3) := by decide +kernel
theorem dX6_costOf_103 : decode cX6_costOf 103 = .ok (.iload 6, 2) := by decide +kernel
theorem dX6_costOf_105 : decode cX6_costOf 105 = .ok (.iaload, 1) := by decide +kernel
theorem dX6_costOf_106 : decode cX6_costOf 106 = .ok (.iadd, 1) := by decide +kernel
theorem dX6_costOf_107 : decode cX6_costOf 107 = .ok (.istore 4, 2) := by decide +kernel
theorem dX6_costOf_109 : decode cX6_costOf 109 = .ok (.iload 5, 2) := by decide +kernel
theorem dX6_costOf_111 : decode cX6_costOf 111 = .ok (.iload 8, 2) := by decide +kernel
theorem dX6_costOf_113 : decode cX6_costOf 113 = .ok (.ifCond .eq 22, 3) := by decide +kernel
theorem dX6_costOf_116 : decode cX6_costOf 116 = .ok (.aload_n 0, 1) := by decide +kernel
theorem dX6_costOf_117 : decode cX6_costOf 117 = .ok (.getfield 49, 3) := by decide +kernel
theorem dX6_costOf_120 : decode cX6_costOf 120 = .ok (.aload_n 0, 1) := by decide +kernel
theorem dX6_costOf_121 : decode cX6_costOf 121 = .ok (.getfield 13, 3) := by decide +kernel
theorem dX6_costOf_124 : decode cX6_costOf 124 = .ok (.iconst 4, 1) := by decide +kernel
theorem dX6_costOf_125 : decode cX6_costOf 125 = .ok (.iload 6, 2) := by decide +kernel
theorem dX6_costOf_127 : decode cX6_costOf 127 = .ok (.imul, 1) := by decide +kernel
theorem dX6_costOf_128 : decode cX6_costOf 128 = .ok (.iconst 3, 1) := by decide +kernel
theorem dX6_costOf_129 : decode cX6_costOf 129 = .ok (.iadd, 1) := by decide +kernel
theorem dX6_costOf_130 : decode cX6_costOf 130 = .ok (.iaload, 1) := by decide +kernel
theorem dX6_costOf_131 : decode cX6_costOf 131 = .ok (.iaload, 1) := by decide +kernel
theorem dX6_costOf_132 : decode cX6_costOf 132 = .ok (.goto 4, 3) := by decide +kernel
theorem dX6_costOf_135 : decode cX6_costOf 135 = .ok (.iconst 0, 1) := by decide +kernel
theorem dX6_costOf_136 : decode cX6_costOf 136 = .ok (.iadd, 1) := by decide +kernel
theorem dX6_costOf_137 : decode cX6_costOf 137 = .ok (.istore 5, 2) := by decide +kernel
theorem dX6_costOf_139 : decode cX6_costOf 139 = .ok (.iload 5, 2) := by decide +kernel
theorem dX6_costOf_141 : decode cX6_costOf 141 = .ok (.iload 4, 2) := by decide +kernel
theorem dX6_costOf_143 : decode cX6_costOf 143 = .ok (.iconst 0, 1) := by decide +kernel
theorem dX6_costOf_144 : decode cX6_costOf 144 = .ok (.iload_n 2, 1) := by decide +kernel
theorem dX6_costOf_145 : decode cX6_costOf 145 = .ok (.invokestatic 52, 3) := by decide +kernel
theorem dX6_costOf_148 : decode cX6_costOf 148 = .ok (.ifCond .eq 7, 3) := by decide +kernel
theorem dX6_costOf_151 : decode cX6_costOf 151 = .ok (.iconst 0, 1) := by decide +kernel
theorem dX6_costOf_152 : decode cX6_costOf 152 = .ok (.goto 6, 3) := by decide +kernel
theorem dX6_costOf_155 : decode cX6_costOf 155 = .ok (.sipush 1000, 3) := by decide +kernel
theorem dX6_costOf_158 : decode cX6_costOf 158 = .ok (.iadd, 1) := by decide +kernel
theorem dX6_costOf_159 : decode cX6_costOf 159 = .ok (.istore 5, 2) := by decide +kernel
theorem dX6_costOf_161 : decode cX6_costOf 161 = .ok (.iinc 6 1, 3) := by decide +kernel
theorem dX6_costOf_164 : decode cX6_costOf 164 = .ok (.goto (-143), 3) := by decide +kernel
theorem dX6_costOf_167 : decode cX6_costOf 167 = .ok (.iload 5, 2) := by decide +kernel
theorem dX6_costOf_169 : decode cX6_costOf 169 = .ok (.ireturn, 1) := by decide +kernel
theorem dX6_findWay_0 : decode cX6_findWay 0 = .ok (.iconst (-1), 1) := by decide +kernel
theorem dX6_findWay_1 : decode cX6_findWay 1 = .ok (.istore_n 2, 1) := by decide +kernel
theorem dX6_findWay_2 : decode cX6_findWay 2 = .ok (.aload_n 0, 1) := by decide +kernel
theorem dX6_findWay_3 : decode cX6_findWay 3 = .ok (.sipush 1000, 3) := by decide +kernel
theorem dX6_findWay_6 : decode cX6_findWay 6 = .ok (.putfield 136, 3) := by decide +kernel
theorem dX6_findWay_9 : decode cX6_findWay 9 = .ok (.iconst 0, 1) := by decide +kernel
theorem dX6_findWay_10 : decode cX6_findWay 10 = .ok (.istore_n 3, 1) := by decide +kernel
theorem dX6_findWay_11 : decode cX6_findWay 11 = .ok (.iload_n 3, 1) := by decide +kernel
theorem dX6_findWay_12 : decode cX6_findWay 12 = .ok (.iconst 1, 1) := by decide +kernel
theorem dX6_findWay_13 : decode cX6_findWay 13 = .ok (.aload_n 0, 1) := by decide +kernel
theorem dX6_findWay_14 : decode cX6_findWay 14 = .ok (.getfield 7, 3) := by decide +kernel
theorem dX6_findWay_17 : decode cX6_findWay 17 = .ok (.iconst 5, 1) := by decide +kernel
theorem dX6_findWay_18 : decode cX6_findWay 18 = .ok (.iaload, 1) := by decide +kernel
theorem dX6_findWay_19 : decode cX6_findWay 19 = .ok (.ishl, 1) := by decide +kernel
theorem dX6_findWay_20 : decode cX6_findWay 20 = .ok (.if_icmp .ge 34, 3) := by decide +kernel
theorem dX6_findWay_23 : decode cX6_findWay 23 = .ok (.aload_n 0, 1) := by decide +kernel
theorem dX6_findWay_24 : decode cX6_findWay 24 = .ok (.iload_n 3, 1) := by decide +kernel
theorem dX6_findWay_25 : decode cX6_findWay 25 = .ok (.iload_n 1, 1) := by decide +kernel
theorem dX6_findWay_26 : decode cX6_findWay 26 = .ok (.invokevirtual 139, 3) := by decide +kernel
theorem dX6_findWay_29 : decode cX6_findWay 29 = .ok (.istore 4, 2) := by decide +kernel
theorem dX6_findWay_31 : decode cX6_findWay 31 = .ok (.iload 4, 2) := by decide +kernel
theorem dX6_findWay_33 : decode cX6_findWay 33 = .ok (.aload_n 0, 1) := by decide +kernel
theorem dX6_findWay_34 : decode cX6_findWay 34 = .ok (.getfield 136, 3) := by decide +kernel
theorem dX6_findWay_37 : decode cX6_findWay 37 = .ok (.if_icmp .ge 11, 3) := by decide +kernel
theorem dX6_findWay_40 : decode cX6_findWay 40 = .ok (.aload_n 0, 1) := by decide +kernel
theorem dX6_findWay_41 : decode cX6_findWay 41 = .ok (.iload 4, 2) := by decide +kernel
theorem dX6_findWay_43 : decode cX6_findWay 43 = .ok (.putfield 136, 3) := by decide +kernel
theorem dX6_findWay_46 : decode cX6_findWay 46 = .ok (.iload_n 3, 1) := by decide +kernel
theorem dX6_findWay_47 : decode cX6_findWay 47 = .ok (.istore_n 2, 1) := by decide +kernel
theorem dX6_findWay_48 : decode cX6_findWay 48 = .ok (.iinc 3 1, 3) := by decide +kernel
theorem dX6_findWay_51 : decode cX6_findWay 51 = .ok (.goto (-40), 3) := by decide +kernel
theorem dX6_findWay_54 : decode cX6_findWay 54 = .ok (.iload_n 2, 1) := by decide +kernel
theorem dX6_findWay_55 : decode cX6_findWay 55 = .ok (.ireturn, 1) := by decide +kernel
theorem dX6_goesOut_0 : decode cX6_goesOut 0 = .ok (.iload_n 1, 1) := by decide +kernel
theorem dX6_goesOut_1 : decode cX6_goesOut 1 = .ok (.aload_n 0, 1) := by decide +kernel
theorem dX6_goesOut_2 : decode cX6_goesOut 2 = .ok (.getfield 7, 3) := by decide +kernel
theorem dX6_goesOut_5 : decode cX6_goesOut 5 = .ok (.iconst 5, 1) := by decide +kernel
theorem dX6_goesOut_6 : decode cX6_goesOut 6 = .ok (.iaload, 1) := by decide +kernel
theorem dX6_goesOut_7 : decode cX6_goesOut 7 = .ok (.iconst 1, 1) := by decide +kernel
theorem dX6_goesOut_8 : decode cX6_goesOut 8 = .ok (.isub, 1) := by decide +kernel
theorem dX6_goesOut_9 : decode cX6_goesOut 9 = .ok (.iload_n 2, 1) := by decide +kernel
theorem dX6_goesOut_10 : decode cX6_goesOut 10 = .ok (.isub, 1) := by decide +kernel
theorem dX6_goesOut_11 : decode cX6_goesOut 11 = .ok (.ishr, 1) := by decide +kernel
theorem dX6_goesOut_12 : decode cX6_goesOut 12 = .ok (.iconst 1, 1) := by decide +kernel
theorem dX6_goesOut_13 : decode cX6_goesOut 13 = .ok (.iand, 1) := by decide +kernel
theorem dX6_goesOut_14 : decode cX6_goesOut 14 = .ok (.ifCond .ne 7, 3) := by decide +kernel
theorem dX6_goesOut_17 : decode cX6_goesOut 17 = .ok (.iconst 1, 1) := by decide +kernel
theorem dX6_goesOut_18 : decode cX6_goesOut 18 = .ok (.goto 4, 3) := by decide +kernel
theorem dX6_goesOut_21 : decode cX6_goesOut 21 = .ok (.iconst 0, 1) := by decide +kernel
theorem dX6_goesOut_22 : decode cX6_goesOut 22 = .ok (.ireturn, 1) := by decide +kernel
theorem dX6_bellows_0 : decode cX6_bellows 0 = .ok (.aload_n 0, 1) := by decide +kernel
theorem dX6_bellows_1 : decode cX6_bellows 1 = .ok (.iload_n 1, 1) := by decide +kernel
theorem dX6_bellows_2 : decode cX6_bellows 2 = .ok (.invokevirtual 79, 3) := by decide +kernel
theorem dX6_bellows_5 : decode cX6_bellows 5 = .ok (.ifCond .ne 5, 3) := by decide +kernel
theorem dX6_bellows_8 : decode cX6_bellows 8 = .ok (.iconst (-1), 1) := by decide +kernel
theorem dX6_bellows_9 : decode cX6_bellows 9 = .ok (.ireturn, 1) := by decide +kernel
theorem dX6_bellows_10 : decode cX6_bellows 10 = .ok (.aload_n 0, 1) := by decide +kernel
theorem dX6_bellows_11 : decode cX6_bellows 11 = .ok (.invokevirtual 133, 3) := by decide +kernel
theorem dX6_bellows_14 : decode cX6_bellows 14 = .ok (.aload_n 0, 1) := by decide +kernel
theorem dX6_bellows_15 : decode cX6_bellows 15 = .ok (.aload_n 0, 1) := by decide +kernel
theorem dX6_bellows_16 : decode cX6_bellows 16 = .ok (.getfield 7, 3) := by decide +kernel
theorem dX6_bellows_19 : decode cX6_bellows 19 = .ok (.iconst 3, 1) := by decide +kernel
theorem dX6_bellows_20 : decode cX6_bellows 20 = .ok (.iaload, 1) := by decide +kernel
theorem dX6_bellows_21 : decode cX6_bellows 21 = .ok (.invokevirtual 142, 3) := by decide +kernel
theorem dX6_bellows_24 : decode cX6_bellows 24 = .ok (.istore_n 2, 1) := by decide +kernel
theorem dX6_bellows_25 : decode cX6_bellows 25 = .ok (.iload_n 2, 1) := by decide +kernel
theorem dX6_bellows_26 : decode cX6_bellows 26 = .ok (.ifCond .ge 8, 3) := by decide +kernel
theorem dX6_bellows_29 : decode cX6_bellows 29 = .ok (.bipush (-3), 2) := by decide +kernel
theorem dX6_bellows_31 : decode cX6_bellows 31 = .ok (.goto 17, 3) := by decide +kernel
theorem dX6_bellows_34 : decode cX6_bellows 34 = .ok (.aload_n 0, 1) := by decide +kernel
theorem dX6_bellows_35 : decode cX6_bellows 35 = .ok (.iload_n 2, 1) := by decide +kernel
theorem dX6_bellows_36 : decode cX6_bellows 36 = .ok (.iload_n 1, 1) := by decide +kernel
theorem dX6_bellows_37 : decode cX6_bellows 37 = .ok (.invokevirtual 145, 3) := by decide +kernel
theorem dX6_bellows_40 : decode cX6_bellows 40 = .ok (.ifCond .eq 7, 3) := by decide +kernel
theorem dX6_bellows_43 : decode cX6_bellows 43 = .ok (.iconst 1, 1) := by decide +kernel
theorem dX6_bellows_44 : decode cX6_bellows 44 = .ok (.goto 4, 3) := by decide +kernel
theorem dX6_bellows_47 : decode cX6_bellows 47 = .ok (.iconst 0, 1) := by decide +kernel
theorem dX6_bellows_48 : decode cX6_bellows 48 = .ok (.ireturn, 1) := by decide +kernel
theorem dX6_air_0 : decode cX6_air 0 = .ok (.aload_n 0, 1) := by decide +kernel
theorem dX6_air_1 : decode cX6_air 1 = .ok (.iload_n 1, 1) := by decide +kernel
theorem dX6_air_2 : decode cX6_air 2 = .ok (.invokevirtual 79, 3) := by decide +kernel
theorem dX6_air_5 : decode cX6_air 5 = .ok (.ifCond .ne 5, 3) := by decide +kernel
theorem dX6_air_8 : decode cX6_air 8 = .ok (.iconst (-1), 1) := by decide +kernel
theorem dX6_air_9 : decode cX6_air 9 = .ok (.ireturn, 1) := by decide +kernel
theorem dX6_air_10 : decode cX6_air 10 = .ok (.aload_n 0, 1) := by decide +kernel
theorem dX6_air_11 : decode cX6_air 11 = .ok (.invokevirtual 133, 3) := by decide +kernel
theorem dX6_air_14 : decode cX6_air 14 = .ok (.aload_n 0, 1) := by decide +kernel
theorem dX6_air_15 : decode cX6_air 15 = .ok (.aload_n 0, 1) := by decide +kernel
theorem dX6_air_16 : decode cX6_air 16 = .ok (.getfield 7, 3) := by decide +kernel
theorem dX6_air_19 : decode cX6_air 19 = .ok (.iconst 3, 1) := by decide +kernel
theorem dX6_air_20 : decode cX6_air 20 = .ok (.iaload, 1) := by decide +kernel
theorem dX6_air_21 : decode cX6_air 21 = .ok (.invokevirtual 142, 3) := by decide +kernel
theorem dX6_air_24 : decode cX6_air 24 = .ok (.istore_n 2, 1) := by decide +kernel
theorem dX6_air_25 : decode cX6_air 25 = .ok (.iload_n 2, 1) := by decide +kernel
theorem dX6_air_26 : decode cX6_air 26 = .ok (.ifCond .ge 6, 3) := by decide +kernel
theorem dX6_air_29 : decode cX6_air 29 = .ok (.bipush (-3), 2) := by decide +kernel
theorem dX6_air_31 : decode cX6_air 31 = .ok (.ireturn, 1) := by decide +kernel
theorem dX6_air_32 : decode cX6_air 32 = .ok (.aload_n 0, 1) := by decide +kernel
theorem dX6_air_33 : decode cX6_air 33 = .ok (.getfield 7, 3) := by decide +kernel
theorem dX6_air_36 : decode cX6_air 36 = .ok (.iconst 4, 1) := by decide +kernel
theorem dX6_air_37 : decode cX6_air 37 = .ok (.iaload, 1) := by decide +kernel
theorem dX6_air_38 : decode cX6_air 38 = .ok (.istore_n 3, 1) := by decide +kernel
theorem dX6_air_39 : decode cX6_air 39 = .ok (.iconst 0, 1) := by decide +kernel
theorem dX6_air_40 : decode cX6_air 40 = .ok (.istore 4, 2) := by decide +kernel
theorem dX6_air_42 : decode cX6_air 42 = .ok (.iload 4, 2) := by decide +kernel
theorem dX6_air_44 : decode cX6_air 44 = .ok (.iload_n 1, 1) := by decide +kernel
theorem dX6_air_45 : decode cX6_air 45 = .ok (.if_icmp .gt 40, 3) := by decide +kernel
theorem dX6_air_48 : decode cX6_air 48 = .ok (.iload_n 3, 1) := by decide +kernel
theorem dX6_air_49 : decode cX6_air 49 = .ok (.aload_n 0, 1) := by decide +kernel
theorem dX6_air_50 : decode cX6_air 50 = .ok (.iload_n 2, 1) := by decide +kernel
theorem dX6_air_51 : decode cX6_air 51 = .ok (.iload 4, 2) := by decide +kernel
theorem dX6_air_53 : decode cX6_air 53 = .ok (.invokevirtual 145, 3) := by decide +kernel
theorem dX6_air_56 : decode cX6_air 56 = .ok (.ifCond .eq 13, 3) := by decide +kernel
theorem dX6_air_59 : decode cX6_air 59 = .ok (.aload_n 0, 1) := by decide +kernel
theorem dX6_air_60 : decode cX6_air 60 = .ok (.getfield 46, 3) := by decide +kernel
theorem dX6_air_63 : decode cX6_air 63 = .ok (.iload 4, 2) := by decide +kernel
theorem dX6_air_65 : decode cX6_air 65 = .ok (.iaload, 1) := by decide +kernel
theorem dX6_air_66 : decode cX6_air 66 = .ok (.goto 11, 3) := by decide +kernel
theorem dX6_air_69 : decode cX6_air 69 = .ok (.aload_n 0, 1) := by decide +kernel
theorem dX6_air_70 : decode cX6_air 70 = .ok (.getfield 46, 3) := by decide +kernel
theorem dX6_air_73 : decode cX6_air 73 = .ok (.iload 4, 2) := by decide +kernel
theorem dX6_air_75 : decode cX6_air 75 = .ok (.iaload, 1) := by decide +kernel
theorem dX6_air_76 : decode cX6_air 76 = .ok (.ineg, 1) := by decide +kernel
theorem dX6_air_77 : decode cX6_air 77 = .ok (.iadd, 1) := by decide +kernel
theorem dX6_air_78 : decode cX6_air 78 = .ok (.istore_n 3, 1) := by decide +kernel
theorem dX6_air_79 : decode cX6_air 79 = .ok (.iinc 4 1, 3) := by decide +kernel
theorem dX6_air_82 : decode cX6_air 82 = .ok (.goto (-40), 3) := by decide +kernel
theorem dX6_air_85 : decode cX6_air 85 = .ok (.iload_n 3, 1) := by decide +kernel
theorem dX6_air_86 : decode cX6_air 86 = .ok (.ireturn, 1) := by decide +kernel
theorem dX6_cost_0 : decode cX6_cost 0 = .ok (.aload_n 0, 1) := by decide +kernel
theorem dX6_cost_1 : decode cX6_cost 1 = .ok (.invokevirtual 133, 3) := by decide +kernel
theorem dX6_cost_4 : decode cX6_cost 4 = .ok (.aload_n 0, 1) := by decide +kernel
theorem dX6_cost_5 : decode cX6_cost 5 = .ok (.aload_n 0, 1) := by decide +kernel
theorem dX6_cost_6 : decode cX6_cost 6 = .ok (.getfield 7, 3) := by decide +kernel
theorem dX6_cost_9 : decode cX6_cost 9 = .ok (.iconst 3, 1) := by decide +kernel
theorem dX6_cost_10 : decode cX6_cost 10 = .ok (.iaload, 1) := by decide +kernel
theorem dX6_cost_11 : decode cX6_cost 11 = .ok (.invokevirtual 142, 3) := by decide +kernel
theorem dX6_cost_14 : decode cX6_cost 14 = .ok (.ifCond .ge 8, 3) := by decide +kernel
theorem dX6_cost_17 : decode cX6_cost 17 = .ok (.bipush (-3), 2) := by decide +kernel
theorem dX6_cost_19 : decode cX6_cost 19 = .ok (.goto 7, 3) := by decide +kernel
theorem dX6_cost_22 : decode cX6_cost 22 = .ok (.aload_n 0, 1) := by decide +kernel
theorem dX6_cost_23 : decode cX6_cost 23 = .ok (.getfield 136, 3) := by decide +kernel
theorem dX6_cost_26 : decode cX6_cost 26 = .ok (.ireturn, 1) := by decide +kernel
theorem dX6_wants_0 : decode cX6_wants 0 = .ok (.aload_n 0, 1) := by decide +kernel
theorem dX6_wants_1 : decode cX6_wants 1 = .ok (.invokevirtual 133, 3) := by decide +kernel
theorem dX6_wants_4 : decode cX6_wants 4 = .ok (.aload_n 0, 1) := by decide +kernel
theorem dX6_wants_5 : decode cX6_wants 5 = .ok (.getfield 7, 3) := by decide +kernel
theorem dX6_wants_8 : decode cX6_wants 8 = .ok (.iconst 4, 1) := by decide +kernel
theorem dX6_wants_9 : decode cX6_wants 9 = .ok (.iaload, 1) := by decide +kernel
theorem dX6_wants_10 : decode cX6_wants 10 = .ok (.iconst 1, 1) := by decide +kernel
theorem dX6_wants_11 : decode cX6_wants 11 = .ok (.if_icmp .le 12, 3) := by decide +kernel
theorem dX6_wants_14 : decode cX6_wants 14 = .ok (.aload_n 0, 1) := by decide +kernel
theorem dX6_wants_15 : decode cX6_wants 15 = .ok (.getfield 7, 3) := by decide +kernel
theorem dX6_wants_18 : decode cX6_wants 18 = .ok (.iconst 4, 1) := by decide +kernel
theorem dX6_wants_19 : decode cX6_wants 19 = .ok (.iaload, 1) := by decide +kernel
theorem dX6_wants_20 : decode cX6_wants 20 = .ok (.goto 4, 3) := by decide +kernel
theorem dX6_wants_23 : decode cX6_wants 23 = .ok (.iconst 1, 1) := by decide +kernel
theorem dX6_wants_24 : decode cX6_wants 24 = .ok (.istore_n 1, 1) := by decide +kernel
theorem dX6_wants_25 : decode cX6_wants 25 = .ok (.iload_n 1, 1) := by decide +kernel
theorem dX6_wants_26 : decode cX6_wants 26 = .ok (.sipush 400, 3) := by decide +kernel
theorem dX6_wants_29 : decode cX6_wants 29 = .ok (.if_icmp .gt 19, 3) := by decide +kernel
theorem dX6_wants_32 : decode cX6_wants 32 = .ok (.aload_n 0, 1) := by decide +kernel
theorem dX6_wants_33 : decode cX6_wants 33 = .ok (.iload_n 1, 1) := by decide +kernel
theorem dX6_wants_34 : decode cX6_wants 34 = .ok (.invokevirtual 142, 3) := by decide +kernel
theorem dX6_wants_37 : decode cX6_wants 37 = .ok (.ifCond .lt 5, 3) := by decide +kernel
theorem dX6_wants_40 : decode cX6_wants 40 = .ok (.iload_n 1, 1) := by decide +kernel
theorem dX6_wants_41 : decode cX6_wants 41 = .ok (.ireturn, 1) := by decide +kernel
theorem dX6_wants_42 : decode cX6_wants 42 = .ok (.iinc 1 1, 3) := by decide +kernel
theorem dX6_wants_45 : decode cX6_wants 45 = .ok (.goto (-20), 3) := by decide +kernel
theorem dX6_wants_48 : decode cX6_wants 48 = .ok (.bipush (-3), 2) := by decide +kernel
theorem dX6_wants_50 : decode cX6_wants 50 = .ok (.ireturn, 1) := by decide +kernel
theorem dX6_sum_0 : decode cX6_sum 0 = .ok (.iconst 0, 1) := by decide +kernel
theorem dX6_sum_1 : decode cX6_sum 1 = .ok (.istore_n 2, 1) := by decide +kernel
theorem dX6_sum_2 : decode cX6_sum 2 = .ok (.iconst 0, 1) := by decide +kernel
theorem dX6_sum_3 : decode cX6_sum 3 = .ok (.istore_n 3, 1) := by decide +kernel
theorem dX6_sum_4 : decode cX6_sum 4 = .ok (.iload_n 3, 1) := by decide +kernel
theorem dX6_sum_5 : decode cX6_sum 5 = .ok (.aload_n 0, 1) := by decide +kernel
theorem dX6_sum_6 : decode cX6_sum 6 = .ok (.getfield 7, 3) := by decide +kernel
theorem dX6_sum_9 : decode cX6_sum 9 = .ok (.iconst 5, 1) := by decide +kernel
theorem dX6_sum_10 : decode cX6_sum 10 = .ok (.iaload, 1) := by decide +kernel
theorem dX6_sum_11 : decode cX6_sum 11 = .ok (.if_icmp .ge 18, 3) := by decide +kernel
theorem dX6_sum_14 : decode cX6_sum 14 = .ok (.iload_n 2, 1) := by decide +kernel
theorem dX6_sum_15 : decode cX6_sum 15 = .ok (.aload_n 0, 1) := by decide +kernel
theorem dX6_sum_16 : decode cX6_sum 16 = .ok (.iload_n 3, 1) := by decide +kernel
theorem dX6_sum_17 : decode cX6_sum 17 = .ok (.iload_n 1, 1) := by decide +kernel
theorem dX6_sum_18 : decode cX6_sum 18 = .ok (.invokevirtual 148, 3) := by decide +kernel
theorem dX6_sum_21 : decode cX6_sum 21 = .ok (.iadd, 1) := by decide +kernel
theorem dX6_sum_22 : decode cX6_sum 22 = .ok (.istore_n 2, 1) := by decide +kernel
theorem dX6_sum_23 : decode cX6_sum 23 = .ok (.iinc 3 1, 3) := by decide +kernel
theorem dX6_sum_26 : decode cX6_sum 26 = .ok (.goto (-22), 3) := by decide +kernel
theorem dX6_sum_29 : decode cX6_sum 29 = .ok (.iload_n 2, 1) := by decide +kernel
theorem dX6_sum_30 : decode cX6_sum 30 = .ok (.ireturn, 1) := by decide +kernel
theorem dX6_turns_0 : decode cX6_turns 0 = .ok (.aload_n 0, 1) := by decide +kernel
theorem dX6_turns_1 : decode cX6_turns 1 = .ok (.invokevirtual 133, 3) := by decide +kernel
theorem dX6_turns_4 : decode cX6_turns 4 = .ok (.aload_n 0, 1) := by decide +kernel
theorem dX6_turns_5 : decode cX6_turns 5 = .ok (.aload_n 0, 1) := by decide +kernel
theorem dX6_turns_6 : decode cX6_turns 6 = .ok (.getfield 7, 3) := by decide +kernel
theorem dX6_turns_9 : decode cX6_turns 9 = .ok (.iconst 3, 1) := by decide +kernel
theorem dX6_turns_10 : decode cX6_turns 10 = .ok (.iaload, 1) := by decide +kernel
theorem dX6_turns_11 : decode cX6_turns 11 = .ok (.invokevirtual 142, 3) := by decide +kernel
theorem dX6_turns_14 : decode cX6_turns 14 = .ok (.istore_n 1, 1) := by decide +kernel
theorem dX6_turns_15 : decode cX6_turns 15 = .ok (.iconst 0, 1) := by decide +kernel
theorem dX6_turns_16 : decode cX6_turns 16 = .ok (.istore_n 2, 1) := by decide +kernel
theorem dX6_turns_17 : decode cX6_turns 17 = .ok (.iconst 1, 1) := by decide +kernel
theorem dX6_turns_18 : decode cX6_turns 18 = .ok (.istore_n 3, 1) := by decide +kernel
theorem dX6_turns_19 : decode cX6_turns 19 = .ok (.iload_n 3, 1) := by decide +kernel
theorem dX6_turns_20 : decode cX6_turns 20 = .ok (.aload_n 0, 1) := by decide +kernel
theorem dX6_turns_21 : decode cX6_turns 21 = .ok (.getfield 7, 3) := by decide +kernel
theorem dX6_turns_24 : decode cX6_turns 24 = .ok (.iconst 5, 1) := by decide +kernel
theorem dX6_turns_25 : decode cX6_turns 25 = .ok (.iaload, 1) := by decide +kernel
theorem dX6_turns_26 : decode cX6_turns 26 = .ok (.if_icmp .ge 38, 3) := by decide +kernel
theorem dX6_turns_29 : decode cX6_turns 29 = .ok (.iload_n 1, 1) := by decide +kernel
theorem dX6_turns_30 : decode cX6_turns 30 = .ok (.ifCond .lt 34, 3) := by decide +kernel
theorem dX6_turns_33 : decode cX6_turns 33 = .ok (.iload_n 2, 1) := by decide +kernel
theorem dX6_turns_34 : decode cX6_turns 34 = .ok (.aload_n 0, 1) := by decide +kernel
theorem dX6_turns_35 : decode cX6_turns 35 = .ok (.iload_n 1, 1) := by decide +kernel
theorem dX6_turns_36 : decode cX6_turns 36 = .ok (.iload_n 3, 1) := by decide +kernel
theorem dX6_turns_37 : decode cX6_turns 37 = .ok (.invokevirtual 145, 3) := by decide +kernel
theorem dX6_turns_40 : decode cX6_turns 40 = .ok (.aload_n 0, 1) := by decide +kernel
theorem dX6_turns_41 : decode cX6_turns 41 = .ok (.iload_n 1, 1) := by decide +kernel
theorem dX6_turns_42 : decode cX6_turns 42 = .ok (.iload_n 3, 1) := by decide +kernel
theorem dX6_turns_43 : decode cX6_turns 43 = .ok (.iconst 1, 1) := by decide +kernel
theorem dX6_turns_44 : decode cX6_turns 44 = .ok (.isub, 1) := by decide +kernel
theorem dX6_turns_45 : decode cX6_turns 45 = .ok (.invokevirtual 145, 3) := by decide +kernel
theorem dX6_turns_48 : decode cX6_turns 48 = .ok (.if_icmp .eq 7, 3) := by decide +kernel
theorem dX6_turns_51 : decode cX6_turns 51 = .ok (.iconst 1, 1) := by decide +kernel
theorem dX6_turns_52 : decode cX6_turns 52 = .ok (.goto 4, 3) := by decide +kernel
theorem dX6_turns_55 : decode cX6_turns 55 = .ok (.iconst 0, 1) := by decide +kernel
theorem dX6_turns_56 : decode cX6_turns 56 = .ok (.iadd, 1) := by decide +kernel
theorem dX6_turns_57 : decode cX6_turns 57 = .ok (.istore_n 2, 1) := by decide +kernel
theorem dX6_turns_58 : decode cX6_turns 58 = .ok (.iinc 3 1, 3) := by decide +kernel
theorem dX6_turns_61 : decode cX6_turns 61 = .ok (.goto (-42), 3) := by decide +kernel
theorem dX6_turns_64 : decode cX6_turns 64 = .ok (.iload_n 2, 1) := by decide +kernel
theorem dX6_turns_65 : decode cX6_turns 65 = .ok (.ireturn, 1) := by decide +kernel
theorem dX6_many_0 : decode cX6_many 0 = .ok (.iload_n 1, 1) := by decide +kernel
theorem dX6_many_1 : decode cX6_many 1 = .ok (.tableswitch 90 0 7 #[47, 54, 67, 67, 67, 75, 80, 80], 47) := by decide +kernel
theorem dX6_many_48 : decode cX6_many 48 = .ok (.aload_n 0, 1) := by decide +kernel
theorem dX6_many_49 : decode cX6_many 49 = .ok (.getfield 7, 3) := by decide +kernel
theorem dX6_many_52 : decode cX6_many 52 = .ok (.iconst 5, 1) := by decide +kernel
theorem dX6_many_53 : decode cX6_many 53 = .ok (.iaload, 1) := by decide +kernel
theorem dX6_many_54 : decode cX6_many 54 = .ok (.ireturn, 1) := by decide +kernel
theorem dX6_many_55 : decode cX6_many 55 = .ok (.bipush 12, 2) := by decide +kernel
theorem dX6_many_57 : decode cX6_many 57 = .ok (.aload_n 0, 1) := by decide +kernel
theorem dX6_many_58 : decode cX6_many 58 = .ok (.getfield 7, 3) := by decide +kernel
theorem dX6_many_61 : decode cX6_many 61 = .ok (.iconst 1, 1) := by decide +kernel
theorem dX6_many_62 : decode cX6_many 62 = .ok (.iaload, 1) := by decide +kernel
theorem dX6_many_63 : decode cX6_many 63 = .ok (.invokestatic 90, 3) := by decide +kernel
theorem dX6_many_66 : decode cX6_many 66 = .ok (.imul, 1) := by decide +kernel
theorem dX6_many_67 : decode cX6_many 67 = .ok (.ireturn, 1) := by decide +kernel
theorem dX6_many_68 : decode cX6_many 68 = .ok (.aload_n 0, 1) := by decide +kernel
theorem dX6_many_69 : decode cX6_many 69 = .ok (.iload_n 1, 1) := by decide +kernel
theorem dX6_many_70 : decode cX6_many 70 = .ok (.iconst 2, 1) := by decide +kernel
theorem dX6_many_71 : decode cX6_many 71 = .ok (.isub, 1) := by decide +kernel
theorem dX6_many_72 : decode cX6_many 72 = .ok (.invokevirtual 151, 3) := by decide +kernel
theorem dX6_many_75 : decode cX6_many 75 = .ok (.ireturn, 1) := by decide +kernel
theorem dX6_many_76 : decode cX6_many 76 = .ok (.aload_n 0, 1) := by decide +kernel
theorem dX6_many_77 : decode cX6_many 77 = .ok (.invokevirtual 154, 3) := by decide +kernel
theorem dX6_many_80 : decode cX6_many 80 = .ok (.ireturn, 1) := by decide +kernel
theorem dX6_many_81 : decode cX6_many 81 = .ok (.aload_n 0, 1) := by decide +kernel
theorem dX6_many_82 : decode cX6_many 82 = .ok (.getfield 7, 3) := by decide +kernel
theorem dX6_many_85 : decode cX6_many 85 = .ok (.iload_n 1, 1) := by decide +kernel
theorem dX6_many_86 : decode cX6_many 86 = .ok (.bipush 6, 2) := by decide +kernel
theorem dX6_many_88 : decode cX6_many 88 = .ok (.isub, 1) := by decide +kernel
theorem dX6_many_89 : decode cX6_many 89 = .ok (.iaload, 1) := by decide +kernel
theorem dX6_many_90 : decode cX6_many 90 = .ok (.ireturn, 1) := by decide +kernel
theorem dX6_many_91 : decode cX6_many 91 = .ok (.iconst (-1), 1) := by decide +kernel
theorem dX6_many_92 : decode cX6_many 92 = .ok (.ireturn, 1) := by decide +kernel
theorem dX6_keep_0 : decode cX6_keep 0 = .ok (.aload_n 0, 1) := by decide +kernel
theorem dX6_keep_1 : decode cX6_keep 1 = .ok (.iconst 1, 1) := by decide +kernel
theorem dX6_keep_2 : decode cX6_keep 2 = .ok (.putfield 158, 3) := by decide +kernel
theorem dX6_keep_5 : decode cX6_keep 5 = .ok (.iconst 0, 1) := by decide +kernel
theorem dX6_keep_6 : decode cX6_keep 6 = .ok (.istore_n 1, 1) := by decide +kernel
theorem dX6_keep_7 : decode cX6_keep 7 = .ok (.iload_n 1, 1) := by decide +kernel
theorem dX6_keep_8 : decode cX6_keep 8 = .ok (.bipush 6, 2) := by decide +kernel
theorem dX6_keep_10 : decode cX6_keep 10 = .ok (.if_icmp .ge 21, 3) := by decide +kernel
theorem dX6_keep_13 : decode cX6_keep 13 = .ok (.aload_n 0, 1) := by decide +kernel
theorem dX6_keep_14 : decode cX6_keep 14 = .ok (.getfield 16, 3) := by decide +kernel
theorem dX6_keep_17 : decode cX6_keep 17 = .ok (.iload_n 1, 1) := by decide +kernel
theorem dX6_keep_18 : decode cX6_keep 18 = .ok (.aload_n 0, 1) := by decide +kernel
theorem dX6_keep_19 : decode cX6_keep 19 = .ok (.getfield 7, 3) := by decide +kernel
theorem dX6_keep_22 : decode cX6_keep 22 = .ok (.iload_n 1, 1) := by decide +kernel
theorem dX6_keep_23 : decode cX6_keep 23 = .ok (.iaload, 1) := by decide +kernel
theorem dX6_keep_24 : decode cX6_keep 24 = .ok (.iastore, 1) := by decide +kernel
theorem dX6_keep_25 : decode cX6_keep 25 = .ok (.iinc 1 1, 3) := by decide +kernel
theorem dX6_keep_28 : decode cX6_keep 28 = .ok (.goto (-21), 3) := by decide +kernel
theorem dX6_keep_31 : decode cX6_keep 31 = .ok (.iconst 0, 1) := by decide +kernel
theorem dX6_keep_32 : decode cX6_keep 32 = .ok (.istore_n 1, 1) := by decide +kernel
theorem dX6_keep_33 : decode cX6_keep 33 = .ok (.iload_n 1, 1) := by decide +kernel
theorem dX6_keep_34 : decode cX6_keep 34 = .ok (.bipush 32, 2) := by decide +kernel
theorem dX6_keep_36 : decode cX6_keep 36 = .ok (.if_icmp .ge 24, 3) := by decide +kernel
theorem dX6_keep_39 : decode cX6_keep 39 = .ok (.aload_n 0, 1) := by decide +kernel
theorem dX6_keep_40 : decode cX6_keep 40 = .ok (.getfield 16, 3) := by decide +kernel
theorem dX6_keep_43 : decode cX6_keep 43 = .ok (.bipush 6, 2) := by decide +kernel
theorem dX6_keep_45 : decode cX6_keep 45 = .ok (.iload_n 1, 1) := by decide +kernel
theorem dX6_keep_46 : decode cX6_keep 46 = .ok (.iadd, 1) := by decide +kernel
theorem dX6_keep_47 : decode cX6_keep 47 = .ok (.aload_n 0, 1) := by decide +kernel
theorem dX6_keep_48 : decode cX6_keep 48 = .ok (.getfield 13, 3) := by decide +kernel
theorem dX6_keep_51 : decode cX6_keep 51 = .ok (.iload_n 1, 1) := by decide +kernel
theorem dX6_keep_52 : decode cX6_keep 52 = .ok (.iaload, 1) := by decide +kernel
theorem dX6_keep_53 : decode cX6_keep 53 = .ok (.iastore, 1) := by decide +kernel
theorem dX6_keep_54 : decode cX6_keep 54 = .ok (.iinc 1 1, 3) := by decide +kernel
theorem dX6_keep_57 : decode cX6_keep 57 = .ok (.goto (-24), 3) := by decide +kernel
theorem dX6_keep_60 : decode cX6_keep 60 = .ok (.iconst 1, 1) := by decide +kernel
theorem dX6_keep_61 : decode cX6_keep 61 = .ok (.ireturn, 1) := by decide +kernel
theorem dX6_back_0 : decode cX6_back 0 = .ok (.aload_n 0, 1) := by decide +kernel
theorem dX6_back_1 : decode cX6_back 1 = .ok (.getfield 158, 3) := by decide +kernel
theorem dX6_back_4 : decode cX6_back 4 = .ok (.ifCond .ne 6, 3) := by decide +kernel
theorem dX6_back_7 : decode cX6_back 7 = .ok (.bipush (-3), 2) := by decide +kernel
theorem dX6_back_9 : decode cX6_back 9 = .ok (.ireturn, 1) := by decide +kernel
theorem dX6_back_10 : decode cX6_back 10 = .ok (.iconst 0, 1) := by decide +kernel
theorem dX6_back_11 : decode cX6_back 11 = .ok (.istore_n 1, 1) := by decide +kernel
theorem dX6_back_12 : decode cX6_back 12 = .ok (.iload_n 1, 1) := by decide +kernel
theorem dX6_back_13 : decode cX6_back 13 = .ok (.bipush 6, 2) := by decide +kernel
theorem dX6_back_15 : decode cX6_back 15 = .ok (.if_icmp .ge 21, 3) := by decide +kernel
theorem dX6_back_18 : decode cX6_back 18 = .ok (.aload_n 0, 1) := by decide +kernel
theorem dX6_back_19 : decode cX6_back 19 = .ok (.getfield 7, 3) := by decide +kernel
theorem dX6_back_22 : decode cX6_back 22 = .ok (.iload_n 1, 1) := by decide +kernel
theorem dX6_back_23 : decode cX6_back 23 = .ok (.aload_n 0, 1) := by decide +kernel
theorem dX6_back_24 : decode cX6_back 24 = .ok (.getfield 16, 3) := by decide +kernel
theorem dX6_back_27 : decode cX6_back 27 = .ok (.iload_n 1, 1) := by decide +kernel
theorem dX6_back_28 : decode cX6_back 28 = .ok (.iaload, 1) := by decide +kernel
theorem dX6_back_29 : decode cX6_back 29 = .ok (.iastore, 1) := by decide +kernel
theorem dX6_back_30 : decode cX6_back 30 = .ok (.iinc 1 1, 3) := by decide +kernel
theorem dX6_back_33 : decode cX6_back 33 = .ok (.goto (-21), 3) := by decide +kernel
theorem dX6_back_36 : decode cX6_back 36 = .ok (.iconst 0, 1) := by decide +kernel
theorem dX6_back_37 : decode cX6_back 37 = .ok (.istore_n 1, 1) := by decide +kernel
theorem dX6_back_38 : decode cX6_back 38 = .ok (.iload_n 1, 1) := by decide +kernel
theorem dX6_back_39 : decode cX6_back 39 = .ok (.bipush 32, 2) := by decide +kernel
theorem dX6_back_41 : decode cX6_back 41 = .ok (.if_icmp .ge 24, 3) := by decide +kernel
theorem dX6_back_44 : decode cX6_back 44 = .ok (.aload_n 0, 1) := by decide +kernel
theorem dX6_back_45 : decode cX6_back 45 = .ok (.getfield 13, 3) := by decide +kernel
theorem dX6_back_48 : decode cX6_back 48 = .ok (.iload_n 1, 1) := by decide +kernel
theorem dX6_back_49 : decode cX6_back 49 = .ok (.aload_n 0, 1) := by decide +kernel
theorem dX6_back_50 : decode cX6_back 50 = .ok (.getfield 16, 3) := by decide +kernel
theorem dX6_back_53 : decode cX6_back 53 = .ok (.bipush 6, 2) := by decide +kernel
theorem dX6_back_55 : decode cX6_back 55 = .ok (.iload_n 1, 1) := by decide +kernel
theorem dX6_back_56 : decode cX6_back 56 = .ok (.iadd, 1) := by decide +kernel
theorem dX6_back_57 : decode cX6_back 57 = .ok (.iaload, 1) := by decide +kernel
theorem dX6_back_58 : decode cX6_back 58 = .ok (.iastore, 1) := by decide +kernel
theorem dX6_back_59 : decode cX6_back 59 = .ok (.iinc 1 1, 3) := by decide +kernel
theorem dX6_back_62 : decode cX6_back 62 = .ok (.goto (-24), 3) := by decide +kernel
theorem dX6_back_65 : decode cX6_back 65 = .ok (.iconst 1, 1) := by decide +kernel
theorem dX6_back_66 : decode cX6_back 66 = .ok (.ireturn, 1) := by decide +kernel
end
section
theorem dL_law_0 : decode cL_law 0 = .ok (.new 7, 3) := by decide +kernel
theorem dL_law_3 : decode cL_law 3 = .ok (.dup, 1) := by decide +kernel
theorem dL_law_4 : decode cL_law 4 = .ok (.invokespecial 9, 3) := by decide +kernel
theorem dL_law_7 : decode cL_law 7 = .ok (.astore_n 1, 1) := by decide +kernel
theorem dL_law_8 : decode cL_law 8 = .ok (.new 10, 3) := by decide +kernel
theorem dL_law_11 : decode cL_law 11 = .ok (.dup, 1) := by decide +kernel
theorem dL_law_12 : decode cL_law 12 = .ok (.invokespecial 12, 3) := by decide +kernel
theorem dL_law_15 : decode cL_law 15 = .ok (.astore_n 2, 1) := by decide +kernel
theorem dL_law_16 : decode cL_law 16 = .ok (.iconst 0, 1) := by decide +kernel
theorem dL_law_17 : decode cL_law 17 = .ok (.istore_n 3, 1) := by decide +kernel
theorem dL_law_18 : decode cL_law 18 = .ok (.iload_n 3, 1) := by decide +kernel
theorem dL_law_19 : decode cL_law 19 = .ok (.aload_n 0, 1) := by decide +kernel
theorem dL_law_20 : decode cL_law 20 = .ok (.arraylength, 1) := by decide +kernel
theorem dL_law_21 : decode cL_law 21 = .ok (.bipush 6, 2) := by decide +kernel
theorem dL_law_23 : decode cL_law 23 = .ok (.isub, 1) := by decide +kernel
theorem dL_law_24 : decode cL_law 24 = .ok (.if_icmp .gt 704, 3) := by decide +kernel
theorem dL_law_27 : decode cL_law 27 = .ok (.aload_n 0, 1) := by decide +kernel
theorem dL_law_28 : decode cL_law 28 = .ok (.iload_n 3, 1) := by decide +kernel
theorem dL_law_29 : decode cL_law 29 = .ok (.iaload, 1) := by decide +kernel
theorem dL_law_30 : decode cL_law 30 = .ok (.bipush 31, 2) := by decide +kernel
theorem dL_law_32 : decode cL_law 32 = .ok (.iand, 1) := by decide +kernel
theorem dL_law_33 : decode cL_law 33 = .ok (.tableswitch 689 0 21 #[103, 136, 159, 182, 215, 268, 331, 344, 377, 410, 453, 476, 489, 512, 545, 568, 591, 614, 627, 640, 663, 676], 103) := by decide +kernel
theorem dL_law_136 : decode cL_law 136 = .ok (.aload_n 1, 1) := by decide +kernel
theorem dL_law_137 : decode cL_law 137 = .ok (.aload_n 0, 1) := by decide +kernel
theorem dL_law_138 : decode cL_law 138 = .ok (.iload_n 3, 1) := by decide +kernel
theorem dL_law_139 : decode cL_law 139 = .ok (.iconst 1, 1) := by decide +kernel
theorem dL_law_140 : decode cL_law 140 = .ok (.iadd, 1) := by decide +kernel
theorem dL_law_141 : decode cL_law 141 = .ok (.iaload, 1) := by decide +kernel
theorem dL_law_142 : decode cL_law 142 = .ok (.aload_n 0, 1) := by decide +kernel
theorem dL_law_143 : decode cL_law 143 = .ok (.iload_n 3, 1) := by decide +kernel
theorem dL_law_144 : decode cL_law 144 = .ok (.iconst 2, 1) := by decide +kernel
theorem dL_law_145 : decode cL_law 145 = .ok (.iadd, 1) := by decide +kernel
theorem dL_law_146 : decode cL_law 146 = .ok (.iaload, 1) := by decide +kernel
theorem dL_law_147 : decode cL_law 147 = .ok (.invokevirtual 13, 3) := by decide +kernel
theorem dL_law_150 : decode cL_law 150 = .ok (.aload_n 2, 1) := by decide +kernel
theorem dL_law_151 : decode cL_law 151 = .ok (.aload_n 0, 1) := by decide +kernel
theorem dL_law_152 : decode cL_law 152 = .ok (.iload_n 3, 1) := by decide +kernel
theorem dL_law_153 : decode cL_law 153 = .ok (.iconst 1, 1) := by decide +kernel
theorem dL_law_154 : decode cL_law 154 = .ok (.iadd, 1) := by decide +kernel
theorem dL_law_155 : decode cL_law 155 = .ok (.iaload, 1) := by decide +kernel
theorem dL_law_156 : decode cL_law 156 = .ok (.aload_n 0, 1) := by decide +kernel
theorem dL_law_157 : decode cL_law 157 = .ok (.iload_n 3, 1) := by decide +kernel
theorem dL_law_158 : decode cL_law 158 = .ok (.iconst 2, 1) := by decide +kernel
theorem dL_law_159 : decode cL_law 159 = .ok (.iadd, 1) := by decide +kernel
theorem dL_law_160 : decode cL_law 160 = .ok (.iaload, 1) := by decide +kernel
theorem dL_law_161 : decode cL_law 161 = .ok (.invokevirtual 17, 3) := by decide +kernel
theorem dL_law_164 : decode cL_law 164 = .ok (.if_icmp .eq 558, 3) := by decide +kernel
theorem dL_law_167 : decode cL_law 167 = .ok (.iconst 0, 1) := by decide +kernel
theorem dL_law_168 : decode cL_law 168 = .ok (.ireturn, 1) := by decide +kernel
theorem dL_law_169 : decode cL_law 169 = .ok (.aload_n 1, 1) := by decide +kernel
theorem dL_law_170 : decode cL_law 170 = .ok (.aload_n 0, 1) := by decide +kernel
theorem dL_law_171 : decode cL_law 171 = .ok (.iload_n 3, 1) := by decide +kernel
theorem dL_law_172 : decode cL_law 172 = .ok (.iconst 1, 1) := by decide +kernel
theorem dL_law_173 : decode cL_law 173 = .ok (.iadd, 1) := by decide +kernel
theorem dL_law_174 : decode cL_law 174 = .ok (.iaload, 1) := by decide +kernel
theorem dL_law_175 : decode cL_law 175 = .ok (.invokevirtual 18, 3) := by decide +kernel
theorem dL_law_178 : decode cL_law 178 = .ok (.aload_n 2, 1) := by decide +kernel
theorem dL_law_179 : decode cL_law 179 = .ok (.aload_n 0, 1) := by decide +kernel
theorem dL_law_180 : decode cL_law 180 = .ok (.iload_n 3, 1) := by decide +kernel
theorem dL_law_181 : decode cL_law 181 = .ok (.iconst 1, 1) := by decide +kernel
theorem dL_law_182 : decode cL_law 182 = .ok (.iadd, 1) := by decide +kernel
theorem dL_law_183 : decode cL_law 183 = .ok (.iaload, 1) := by decide +kernel
theorem dL_law_184 : decode cL_law 184 = .ok (.invokevirtual 22, 3) := by decide +kernel
theorem dL_law_187 : decode cL_law 187 = .ok (.if_icmp .eq 535, 3) := by decide +kernel
theorem dL_law_190 : decode cL_law 190 = .ok (.iconst 0, 1) := by decide +kernel
theorem dL_law_191 : decode cL_law 191 = .ok (.ireturn, 1) := by decide +kernel
theorem dL_law_192 : decode cL_law 192 = .ok (.aload_n 1, 1) := by decide +kernel
theorem dL_law_193 : decode cL_law 193 = .ok (.aload_n 0, 1) := by decide +kernel
theorem dL_law_194 : decode cL_law 194 = .ok (.iload_n 3, 1) := by decide +kernel
theorem dL_law_195 : decode cL_law 195 = .ok (.iconst 1, 1) := by decide +kernel
theorem dL_law_196 : decode cL_law 196 = .ok (.iadd, 1) := by decide +kernel
theorem dL_law_197 : decode cL_law 197 = .ok (.iaload, 1) := by decide +kernel
theorem dL_law_198 : decode cL_law 198 = .ok (.invokevirtual 23, 3) := by decide +kernel
theorem dL_law_201 : decode cL_law 201 = .ok (.aload_n 2, 1) := by decide +kernel
theorem dL_law_202 : decode cL_law 202 = .ok (.aload_n 0, 1) := by decide +kernel
theorem dL_law_203 : decode cL_law 203 = .ok (.iload_n 3, 1) := by decide +kernel
theorem dL_law_204 : decode cL_law 204 = .ok (.iconst 1, 1) := by decide +kernel
theorem dL_law_205 : decode cL_law 205 = .ok (.iadd, 1) := by decide +kernel
theorem dL_law_206 : decode cL_law 206 = .ok (.iaload, 1) := by decide +kernel
theorem dL_law_207 : decode cL_law 207 = .ok (.invokevirtual 26, 3) := by decide +kernel
theorem dL_law_210 : decode cL_law 210 = .ok (.if_icmp .eq 512, 3) := by decide +kernel
theorem dL_law_213 : decode cL_law 213 = .ok (.iconst 0, 1) := by decide +kernel
theorem dL_law_214 : decode cL_law 214 = .ok (.ireturn, 1) := by decide +kernel
theorem dL_law_215 : decode cL_law 215 = .ok (.aload_n 1, 1) := by decide +kernel
theorem dL_law_216 : decode cL_law 216 = .ok (.aload_n 0, 1) := by decide +kernel
theorem dL_law_217 : decode cL_law 217 = .ok (.iload_n 3, 1) := by decide +kernel
theorem dL_law_218 : decode cL_law 218 = .ok (.iconst 1, 1) := by decide +kernel
theorem dL_law_219 : decode cL_law 219 = .ok (.iadd, 1) := by decide +kernel
theorem dL_law_220 : decode cL_law 220 = .ok (.iaload, 1) := by decide +kernel
theorem dL_law_221 : decode cL_law 221 = .ok (.aload_n 0, 1) := by decide +kernel
theorem dL_law_222 : decode cL_law 222 = .ok (.iload_n 3, 1) := by decide +kernel
theorem dL_law_223 : decode cL_law 223 = .ok (.iconst 2, 1) := by decide +kernel
theorem dL_law_224 : decode cL_law 224 = .ok (.iadd, 1) := by decide +kernel
theorem dL_law_225 : decode cL_law 225 = .ok (.iaload, 1) := by decide +kernel
theorem dL_law_226 : decode cL_law 226 = .ok (.invokevirtual 27, 3) := by decide +kernel
theorem dL_law_229 : decode cL_law 229 = .ok (.aload_n 2, 1) := by decide +kernel
theorem dL_law_230 : decode cL_law 230 = .ok (.aload_n 0, 1) := by decide +kernel
theorem dL_law_231 : decode cL_law 231 = .ok (.iload_n 3, 1) := by decide +kernel
theorem dL_law_232 : decode cL_law 232 = .ok (.iconst 1, 1) := by decide +kernel
theorem dL_law_233 : decode cL_law 233 = .ok (.iadd, 1) := by decide +kernel
theorem dL_law_234 : decode cL_law 234 = .ok (.iaload, 1) := by decide +kernel
theorem dL_law_235 : decode cL_law 235 = .ok (.aload_n 0, 1) := by decide +kernel
theorem dL_law_236 : decode cL_law 236 = .ok (.iload_n 3, 1) := by decide +kernel
theorem dL_law_237 : decode cL_law 237 = .ok (.iconst 2, 1) := by decide +kernel
theorem dL_law_238 : decode cL_law 238 = .ok (.iadd, 1) := by decide +kernel
theorem dL_law_239 : decode cL_law 239 = .ok (.iaload, 1) := by decide +kernel
theorem dL_law_240 : decode cL_law 240 = .ok (.invokevirtual 30, 3) := by decide +kernel
theorem dL_law_243 : decode cL_law 243 = .ok (.if_icmp .eq 479, 3) := by decide +kernel
theorem dL_law_246 : decode cL_law 246 = .ok (.iconst 0, 1) := by decide +kernel
theorem dL_law_247 : decode cL_law 247 = .ok (.ireturn, 1) := by decide +kernel
theorem dL_law_248 : decode cL_law 248 = .ok (.aload_n 1, 1) := by decide +kernel
theorem dL_law_249 : decode cL_law 249 = .ok (.aload_n 0, 1) := by decide +kernel
theorem dL_law_250 : decode cL_law 250 = .ok (.iload_n 3, 1) := by decide +kernel
theorem dL_law_251 : decode cL_law 251 = .ok (.iconst 1, 1) := by decide +kernel
theorem dL_law_252 : decode cL_law 252 = .ok (.iadd, 1) := by decide +kernel
theorem dL_law_253 : decode cL_law 253 = .ok (.iaload, 1) := by decide +kernel
theorem dL_law_254 : decode cL_law 254 = .ok (.aload_n 0, 1) := by decide +kernel
theorem dL_law_255 : decode cL_law 255 = .ok (.iload_n 3, 1) := by decide +kernel
theorem dL_law_256 : decode cL_law 256 = .ok (.iconst 2, 1) := by decide +kernel
theorem dL_law_257 : decode cL_law 257 = .ok (.iadd, 1) := by decide +kernel
theorem dL_law_258 : decode cL_law 258 = .ok (.iaload, 1) := by decide +kernel
theorem dL_law_259 : decode cL_law 259 = .ok (.aload_n 0, 1) := by decide +kernel
theorem dL_law_260 : decode cL_law 260 = .ok (.iload_n 3, 1) := by decide +kernel
theorem dL_law_261 : decode cL_law 261 = .ok (.iconst 3, 1) := by decide +kernel
theorem dL_law_262 : decode cL_law 262 = .ok (.iadd, 1) := by decide +kernel
theorem dL_law_263 : decode cL_law 263 = .ok (.iaload, 1) := by decide +kernel
theorem dL_law_264 : decode cL_law 264 = .ok (.aload_n 0, 1) := by decide +kernel
theorem dL_law_265 : decode cL_law 265 = .ok (.iload_n 3, 1) := by decide +kernel
theorem dL_law_266 : decode cL_law 266 = .ok (.iconst 4, 1) := by decide +kernel
theorem dL_law_267 : decode cL_law 267 = .ok (.iadd, 1) := by decide +kernel
theorem dL_law_268 : decode cL_law 268 = .ok (.iaload, 1) := by decide +kernel
theorem dL_law_269 : decode cL_law 269 = .ok (.invokevirtual 31, 3) := by decide +kernel
theorem dL_law_272 : decode cL_law 272 = .ok (.aload_n 2, 1) := by decide +kernel
theorem dL_law_273 : decode cL_law 273 = .ok (.aload_n 0, 1) := by decide +kernel
theorem dL_law_274 : decode cL_law 274 = .ok (.iload_n 3, 1) := by decide +kernel
theorem dL_law_275 : decode cL_law 275 = .ok (.iconst 1, 1) := by decide +kernel
theorem dL_law_276 : decode cL_law 276 = .ok (.iadd, 1) := by decide +kernel
theorem dL_law_277 : decode cL_law 277 = .ok (.iaload, 1) := by decide +kernel
theorem dL_law_278 : decode cL_law 278 = .ok (.aload_n 0, 1) := by decide +kernel
theorem dL_law_279 : decode cL_law 279 = .ok (.iload_n 3, 1) := by decide +kernel
theorem dL_law_280 : decode cL_law 280 = .ok (.iconst 2, 1) := by decide +kernel
theorem dL_law_281 : decode cL_law 281 = .ok (.iadd, 1) := by decide +kernel
theorem dL_law_282 : decode cL_law 282 = .ok (.iaload, 1) := by decide +kernel
theorem dL_law_283 : decode cL_law 283 = .ok (.aload_n 0, 1) := by decide +kernel
theorem dL_law_284 : decode cL_law 284 = .ok (.iload_n 3, 1) := by decide +kernel
theorem dL_law_285 : decode cL_law 285 = .ok (.iconst 3, 1) := by decide +kernel
theorem dL_law_286 : decode cL_law 286 = .ok (.iadd, 1) := by decide +kernel
theorem dL_law_287 : decode cL_law 287 = .ok (.iaload, 1) := by decide +kernel
theorem dL_law_288 : decode cL_law 288 = .ok (.aload_n 0, 1) := by decide +kernel
theorem dL_law_289 : decode cL_law 289 = .ok (.iload_n 3, 1) := by decide +kernel
theorem dL_law_290 : decode cL_law 290 = .ok (.iconst 4, 1) := by decide +kernel
theorem dL_law_291 : decode cL_law 291 = .ok (.iadd, 1) := by decide +kernel
theorem dL_law_292 : decode cL_law 292 = .ok (.iaload, 1) := by decide +kernel
theorem dL_law_293 : decode cL_law 293 = .ok (.invokevirtual 35, 3) := by decide +kernel
theorem dL_law_296 : decode cL_law 296 = .ok (.if_icmp .eq 426, 3) := by decide +kernel
theorem dL_law_299 : decode cL_law 299 = .ok (.iconst 0, 1) := by decide +kernel
theorem dL_law_300 : decode cL_law 300 = .ok (.ireturn, 1) := by decide +kernel
theorem dL_law_301 : decode cL_law 301 = .ok (.aload_n 1, 1) := by decide +kernel
theorem dL_law_302 : decode cL_law 302 = .ok (.aload_n 0, 1) := by decide +kernel
theorem dL_law_303 : decode cL_law 303 = .ok (.iload_n 3, 1) := by decide +kernel
theorem dL_law_304 : decode cL_law 304 = .ok (.iconst 1, 1) := by decide +kernel
theorem dL_law_305 : decode cL_law 305 = .ok (.iadd, 1) := by decide +kernel
theorem dL_law_306 : decode cL_law 306 = .ok (.iaload, 1) := by decide +kernel
theorem dL_law_307 : decode cL_law 307 = .ok (.aload_n 0, 1) := by decide +kernel
theorem dL_law_308 : decode cL_law 308 = .ok (.iload_n 3, 1) := by decide +kernel
theorem dL_law_309 : decode cL_law 309 = .ok (.iconst 2, 1) := by decide +kernel
theorem dL_law_310 : decode cL_law 310 = .ok (.iadd, 1) := by decide +kernel
theorem dL_law_311 : decode cL_law 311 = .ok (.iaload, 1) := by decide +kernel
theorem dL_law_312 : decode cL_law 312 = .ok (.aload_n 0, 1) := by decide +kernel
theorem dL_law_313 : decode cL_law 313 = .ok (.iload_n 3, 1) := by decide +kernel
theorem dL_law_314 : decode cL_law 314 = .ok (.iconst 3, 1) := by decide +kernel
theorem dL_law_315 : decode cL_law 315 = .ok (.iadd, 1) := by decide +kernel
theorem dL_law_316 : decode cL_law 316 = .ok (.iaload, 1) := by decide +kernel
theorem dL_law_317 : decode cL_law 317 = .ok (.aload_n 0, 1) := by decide +kernel
theorem dL_law_318 : decode cL_law 318 = .ok (.iload_n 3, 1) := by decide +kernel
theorem dL_law_319 : decode cL_law 319 = .ok (.iconst 4, 1) := by decide +kernel
theorem dL_law_320 : decode cL_law 320 = .ok (.iadd, 1) := by decide +kernel
theorem dL_law_321 : decode cL_law 321 = .ok (.iaload, 1) := by decide +kernel
theorem dL_law_322 : decode cL_law 322 = .ok (.aload_n 0, 1) := by decide +kernel
theorem dL_law_323 : decode cL_law 323 = .ok (.iload_n 3, 1) := by decide +kernel
theorem dL_law_324 : decode cL_law 324 = .ok (.iconst 5, 1) := by decide +kernel
theorem dL_law_325 : decode cL_law 325 = .ok (.iadd, 1) := by decide +kernel
theorem dL_law_326 : decode cL_law 326 = .ok (.iaload, 1) := by decide +kernel
theorem dL_law_327 : decode cL_law 327 = .ok (.invokevirtual 36, 3) := by decide +kernel
theorem dL_law_330 : decode cL_law 330 = .ok (.aload_n 2, 1) := by decide +kernel
theorem dL_law_331 : decode cL_law 331 = .ok (.aload_n 0, 1) := by decide +kernel
theorem dL_law_332 : decode cL_law 332 = .ok (.iload_n 3, 1) := by decide +kernel
theorem dL_law_333 : decode cL_law 333 = .ok (.iconst 1, 1) := by decide +kernel
theorem dL_law_334 : decode cL_law 334 = .ok (.iadd, 1) := by decide +kernel
theorem dL_law_335 : decode cL_law 335 = .ok (.iaload, 1) := by decide +kernel
theorem dL_law_336 : decode cL_law 336 = .ok (.aload_n 0, 1) := by decide +kernel
theorem dL_law_337 : decode cL_law 337 = .ok (.iload_n 3, 1) := by decide +kernel
theorem dL_law_338 : decode cL_law 338 = .ok (.iconst 2, 1) := by decide +kernel
theorem dL_law_339 : decode cL_law 339 = .ok (.iadd, 1) := by decide +kernel
theorem dL_law_340 : decode cL_law 340 = .ok (.iaload, 1) := by decide +kernel
theorem dL_law_341 : decode cL_law 341 = .ok (.aload_n 0, 1) := by decide +kernel
theorem dL_law_342 : decode cL_law 342 = .ok (.iload_n 3, 1) := by decide +kernel
theorem dL_law_343 : decode cL_law 343 = .ok (.iconst 3, 1) := by decide +kernel
theorem dL_law_344 : decode cL_law 344 = .ok (.iadd, 1) := by decide +kernel
theorem dL_law_345 : decode cL_law 345 = .ok (.iaload, 1) := by decide +kernel
theorem dL_law_346 : decode cL_law 346 = .ok (.aload_n 0, 1) := by decide +kernel
theorem dL_law_347 : decode cL_law 347 = .ok (.iload_n 3, 1) := by decide +kernel
theorem dL_law_348 : decode cL_law 348 = .ok (.iconst 4, 1) := by decide +kernel
theorem dL_law_349 : decode cL_law 349 = .ok (.iadd, 1) := by decide +kernel
theorem dL_law_350 : decode cL_law 350 = .ok (.iaload, 1) := by decide +kernel
theorem dL_law_351 : decode cL_law 351 = .ok (.aload_n 0, 1) := by decide +kernel
theorem dL_law_352 : decode cL_law 352 = .ok (.iload_n 3, 1) := by decide +kernel
theorem dL_law_353 : decode cL_law 353 = .ok (.iconst 5, 1) := by decide +kernel
theorem dL_law_354 : decode cL_law 354 = .ok (.iadd, 1) := by decide +kernel
theorem dL_law_355 : decode cL_law 355 = .ok (.iaload, 1) := by decide +kernel
theorem dL_law_356 : decode cL_law 356 = .ok (.invokevirtual 40, 3) := by decide +kernel
theorem dL_law_359 : decode cL_law 359 = .ok (.if_icmp .eq 363, 3) := by decide +kernel
theorem dL_law_362 : decode cL_law 362 = .ok (.iconst 0, 1) := by decide +kernel
theorem dL_law_363 : decode cL_law 363 = .ok (.ireturn, 1) := by decide +kernel
theorem dL_law_364 : decode cL_law 364 = .ok (.aload_n 1, 1) := by decide +kernel
theorem dL_law_365 : decode cL_law 365 = .ok (.invokevirtual 41, 3) := by decide +kernel
theorem dL_law_368 : decode cL_law 368 = .ok (.aload_n 2, 1) := by decide +kernel
theorem dL_law_369 : decode cL_law 369 = .ok (.invokevirtual 45, 3) := by decide +kernel
theorem dL_law_372 : decode cL_law 372 = .ok (.if_icmp .eq 350, 3) := by decide +kernel
theorem dL_law_375 : decode cL_law 375 = .ok (.iconst 0, 1) := by decide +kernel
theorem dL_law_376 : decode cL_law 376 = .ok (.ireturn, 1) := by decide +kernel
theorem dL_law_377 : decode cL_law 377 = .ok (.aload_n 1, 1) := by decide +kernel
theorem dL_law_378 : decode cL_law 378 = .ok (.aload_n 0, 1) := by decide +kernel
theorem dL_law_379 : decode cL_law 379 = .ok (.iload_n 3, 1) := by decide +kernel
theorem dL_law_380 : decode cL_law 380 = .ok (.iconst 1, 1) := by decide +kernel
theorem dL_law_381 : decode cL_law 381 = .ok (.iadd, 1) := by decide +kernel
theorem dL_law_382 : decode cL_law 382 = .ok (.iaload, 1) := by decide +kernel
theorem dL_law_383 : decode cL_law 383 = .ok (.aload_n 0, 1) := by decide +kernel
theorem dL_law_384 : decode cL_law 384 = .ok (.iload_n 3, 1) := by decide +kernel
theorem dL_law_385 : decode cL_law 385 = .ok (.iconst 2, 1) := by decide +kernel
theorem dL_law_386 : decode cL_law 386 = .ok (.iadd, 1) := by decide +kernel
theorem dL_law_387 : decode cL_law 387 = .ok (.iaload, 1) := by decide +kernel
theorem dL_law_388 : decode cL_law 388 = .ok (.invokevirtual 46, 3) := by decide +kernel
theorem dL_law_391 : decode cL_law 391 = .ok (.aload_n 2, 1) := by decide +kernel
theorem dL_law_392 : decode cL_law 392 = .ok (.aload_n 0, 1) := by decide +kernel
theorem dL_law_393 : decode cL_law 393 = .ok (.iload_n 3, 1) := by decide +kernel
theorem dL_law_394 : decode cL_law 394 = .ok (.iconst 1, 1) := by decide +kernel
theorem dL_law_395 : decode cL_law 395 = .ok (.iadd, 1) := by decide +kernel
theorem dL_law_396 : decode cL_law 396 = .ok (.iaload, 1) := by decide +kernel
theorem dL_law_397 : decode cL_law 397 = .ok (.aload_n 0, 1) := by decide +kernel
theorem dL_law_398 : decode cL_law 398 = .ok (.iload_n 3, 1) := by decide +kernel
theorem dL_law_399 : decode cL_law 399 = .ok (.iconst 2, 1) := by decide +kernel
theorem dL_law_400 : decode cL_law 400 = .ok (.iadd, 1) := by decide +kernel
theorem dL_law_401 : decode cL_law 401 = .ok (.iaload, 1) := by decide +kernel
theorem dL_law_402 : decode cL_law 402 = .ok (.invokevirtual 49, 3) := by decide +kernel
theorem dL_law_405 : decode cL_law 405 = .ok (.if_icmp .eq 317, 3) := by decide +kernel
theorem dL_law_408 : decode cL_law 408 = .ok (.iconst 0, 1) := by decide +kernel
theorem dL_law_409 : decode cL_law 409 = .ok (.ireturn, 1) := by decide +kernel
theorem dL_law_410 : decode cL_law 410 = .ok (.aload_n 1, 1) := by decide +kernel
theorem dL_law_411 : decode cL_law 411 = .ok (.aload_n 0, 1) := by decide +kernel
theorem dL_law_412 : decode cL_law 412 = .ok (.iload_n 3, 1) := by decide +kernel
theorem dL_law_413 : decode cL_law 413 = .ok (.iconst 1, 1) := by decide +kernel
theorem dL_law_414 : decode cL_law 414 = .ok (.iadd, 1) := by decide +kernel
theorem dL_law_415 : decode cL_law 415 = .ok (.iaload, 1) := by decide +kernel
theorem dL_law_416 : decode cL_law 416 = .ok (.aload_n 0, 1) := by decide +kernel
theorem dL_law_417 : decode cL_law 417 = .ok (.iload_n 3, 1) := by decide +kernel
theorem dL_law_418 : decode cL_law 418 = .ok (.iconst 2, 1) := by decide +kernel
theorem dL_law_419 : decode cL_law 419 = .ok (.iadd, 1) := by decide +kernel
theorem dL_law_420 : decode cL_law 420 = .ok (.iaload, 1) := by decide +kernel
theorem dL_law_421 : decode cL_law 421 = .ok (.invokevirtual 50, 3) := by decide +kernel
theorem dL_law_424 : decode cL_law 424 = .ok (.aload_n 2, 1) := by decide +kernel
theorem dL_law_425 : decode cL_law 425 = .ok (.aload_n 0, 1) := by decide +kernel
theorem dL_law_426 : decode cL_law 426 = .ok (.iload_n 3, 1) := by decide +kernel
theorem dL_law_427 : decode cL_law 427 = .ok (.iconst 1, 1) := by decide +kernel
theorem dL_law_428 : decode cL_law 428 = .ok (.iadd, 1) := by decide +kernel
theorem dL_law_429 : decode cL_law 429 = .ok (.iaload, 1) := by decide +kernel
theorem dL_law_430 : decode cL_law 430 = .ok (.aload_n 0, 1) := by decide +kernel
theorem dL_law_431 : decode cL_law 431 = .ok (.iload_n 3, 1) := by decide +kernel
theorem dL_law_432 : decode cL_law 432 = .ok (.iconst 2, 1) := by decide +kernel
theorem dL_law_433 : decode cL_law 433 = .ok (.iadd, 1) := by decide +kernel
theorem dL_law_434 : decode cL_law 434 = .ok (.iaload, 1) := by decide +kernel
theorem dL_law_435 : decode cL_law 435 = .ok (.invokevirtual 53, 3) := by decide +kernel
theorem dL_law_438 : decode cL_law 438 = .ok (.if_icmp .eq 284, 3) := by decide +kernel
theorem dL_law_441 : decode cL_law 441 = .ok (.iconst 0, 1) := by decide +kernel
theorem dL_law_442 : decode cL_law 442 = .ok (.ireturn, 1) := by decide +kernel
theorem dL_law_443 : decode cL_law 443 = .ok (.aload_n 1, 1) := by decide +kernel
theorem dL_law_444 : decode cL_law 444 = .ok (.aload_n 0, 1) := by decide +kernel
theorem dL_law_445 : decode cL_law 445 = .ok (.iload_n 3, 1) := by decide +kernel
theorem dL_law_446 : decode cL_law 446 = .ok (.iconst 1, 1) := by decide +kernel
theorem dL_law_447 : decode cL_law 447 = .ok (.iadd, 1) := by decide +kernel
theorem dL_law_448 : decode cL_law 448 = .ok (.iaload, 1) := by decide +kernel
theorem dL_law_449 : decode cL_law 449 = .ok (.aload_n 0, 1) := by decide +kernel
theorem dL_law_450 : decode cL_law 450 = .ok (.iload_n 3, 1) := by decide +kernel
theorem dL_law_451 : decode cL_law 451 = .ok (.iconst 2, 1) := by decide +kernel
theorem dL_law_452 : decode cL_law 452 = .ok (.iadd, 1) := by decide +kernel
theorem dL_law_453 : decode cL_law 453 = .ok (.iaload, 1) := by decide +kernel
theorem dL_law_454 : decode cL_law 454 = .ok (.aload_n 0, 1) := by decide +kernel
theorem dL_law_455 : decode cL_law 455 = .ok (.iload_n 3, 1) := by decide +kernel
theorem dL_law_456 : decode cL_law 456 = .ok (.iconst 3, 1) := by decide +kernel
theorem dL_law_457 : decode cL_law 457 = .ok (.iadd, 1) := by decide +kernel
theorem dL_law_458 : decode cL_law 458 = .ok (.iaload, 1) := by decide +kernel
theorem dL_law_459 : decode cL_law 459 = .ok (.invokevirtual 54, 3) := by decide +kernel
theorem dL_law_462 : decode cL_law 462 = .ok (.aload_n 2, 1) := by decide +kernel
theorem dL_law_463 : decode cL_law 463 = .ok (.aload_n 0, 1) := by decide +kernel
theorem dL_law_464 : decode cL_law 464 = .ok (.iload_n 3, 1) := by decide +kernel
theorem dL_law_465 : decode cL_law 465 = .ok (.iconst 1, 1) := by decide +kernel
theorem dL_law_466 : decode cL_law 466 = .ok (.iadd, 1) := by decide +kernel
theorem dL_law_467 : decode cL_law 467 = .ok (.iaload, 1) := by decide +kernel
theorem dL_law_468 : decode cL_law 468 = .ok (.aload_n 0, 1) := by decide +kernel
theorem dL_law_469 : decode cL_law 469 = .ok (.iload_n 3, 1) := by decide +kernel
theorem dL_law_470 : decode cL_law 470 = .ok (.iconst 2, 1) := by decide +kernel
theorem dL_law_471 : decode cL_law 471 = .ok (.iadd, 1) := by decide +kernel
theorem dL_law_472 : decode cL_law 472 = .ok (.iaload, 1) := by decide +kernel
theorem dL_law_473 : decode cL_law 473 = .ok (.aload_n 0, 1) := by decide +kernel
theorem dL_law_474 : decode cL_law 474 = .ok (.iload_n 3, 1) := by decide +kernel
theorem dL_law_475 : decode cL_law 475 = .ok (.iconst 3, 1) := by decide +kernel
theorem dL_law_476 : decode cL_law 476 = .ok (.iadd, 1) := by decide +kernel
theorem dL_law_477 : decode cL_law 477 = .ok (.iaload, 1) := by decide +kernel
theorem dL_law_478 : decode cL_law 478 = .ok (.invokevirtual 58, 3) := by decide +kernel
theorem dL_law_481 : decode cL_law 481 = .ok (.if_icmp .eq 241, 3) := by decide +kernel
theorem dL_law_484 : decode cL_law 484 = .ok (.iconst 0, 1) := by decide +kernel
theorem dL_law_485 : decode cL_law 485 = .ok (.ireturn, 1) := by decide +kernel
theorem dL_law_486 : decode cL_law 486 = .ok (.aload_n 1, 1) := by decide +kernel
theorem dL_law_487 : decode cL_law 487 = .ok (.aload_n 0, 1) := by decide +kernel
theorem dL_law_488 : decode cL_law 488 = .ok (.iload_n 3, 1) := by decide +kernel
theorem dL_law_489 : decode cL_law 489 = .ok (.iconst 1, 1) := by decide +kernel
theorem dL_law_490 : decode cL_law 490 = .ok (.iadd, 1) := by decide +kernel
theorem dL_law_491 : decode cL_law 491 = .ok (.iaload, 1) := by decide +kernel
theorem dL_law_492 : decode cL_law 492 = .ok (.invokevirtual 59, 3) := by decide +kernel
theorem dL_law_495 : decode cL_law 495 = .ok (.aload_n 2, 1) := by decide +kernel
theorem dL_law_496 : decode cL_law 496 = .ok (.aload_n 0, 1) := by decide +kernel
theorem dL_law_497 : decode cL_law 497 = .ok (.iload_n 3, 1) := by decide +kernel
theorem dL_law_498 : decode cL_law 498 = .ok (.iconst 1, 1) := by decide +kernel
theorem dL_law_499 : decode cL_law 499 = .ok (.iadd, 1) := by decide +kernel
theorem dL_law_500 : decode cL_law 500 = .ok (.iaload, 1) := by decide +kernel
theorem dL_law_501 : decode cL_law 501 = .ok (.invokevirtual 62, 3) := by decide +kernel
theorem dL_law_504 : decode cL_law 504 = .ok (.if_icmp .eq 218, 3) := by decide +kernel
theorem dL_law_507 : decode cL_law 507 = .ok (.iconst 0, 1) := by decide +kernel
theorem dL_law_508 : decode cL_law 508 = .ok (.ireturn, 1) := by decide +kernel
theorem dL_law_509 : decode cL_law 509 = .ok (.aload_n 1, 1) := by decide +kernel
theorem dL_law_510 : decode cL_law 510 = .ok (.invokevirtual 63, 3) := by decide +kernel
theorem dL_law_513 : decode cL_law 513 = .ok (.aload_n 2, 1) := by decide +kernel
theorem dL_law_514 : decode cL_law 514 = .ok (.invokevirtual 66, 3) := by decide +kernel
theorem dL_law_517 : decode cL_law 517 = .ok (.if_icmp .eq 205, 3) := by decide +kernel
theorem dL_law_520 : decode cL_law 520 = .ok (.iconst 0, 1) := by decide +kernel
theorem dL_law_521 : decode cL_law 521 = .ok (.ireturn, 1) := by decide +kernel
theorem dL_law_522 : decode cL_law 522 = .ok (.aload_n 1, 1) := by decide +kernel
theorem dL_law_523 : decode cL_law 523 = .ok (.aload_n 0, 1) := by decide +kernel
theorem dL_law_524 : decode cL_law 524 = .ok (.iload_n 3, 1) := by decide +kernel
theorem dL_law_525 : decode cL_law 525 = .ok (.iconst 1, 1) := by decide +kernel
theorem dL_law_526 : decode cL_law 526 = .ok (.iadd, 1) := by decide +kernel
theorem dL_law_527 : decode cL_law 527 = .ok (.iaload, 1) := by decide +kernel
theorem dL_law_528 : decode cL_law 528 = .ok (.invokevirtual 67, 3) := by decide +kernel
theorem dL_law_531 : decode cL_law 531 = .ok (.aload_n 2, 1) := by decide +kernel
theorem dL_law_532 : decode cL_law 532 = .ok (.aload_n 0, 1) := by decide +kernel
theorem dL_law_533 : decode cL_law 533 = .ok (.iload_n 3, 1) := by decide +kernel
theorem dL_law_534 : decode cL_law 534 = .ok (.iconst 1, 1) := by decide +kernel
theorem dL_law_535 : decode cL_law 535 = .ok (.iadd, 1) := by decide +kernel
theorem dL_law_536 : decode cL_law 536 = .ok (.iaload, 1) := by decide +kernel
theorem dL_law_537 : decode cL_law 537 = .ok (.invokevirtual 70, 3) := by decide +kernel
theorem dL_law_540 : decode cL_law 540 = .ok (.if_icmp .eq 182, 3) := by decide +kernel
theorem dL_law_543 : decode cL_law 543 = .ok (.iconst 0, 1) := by decide +kernel
theorem dL_law_544 : decode cL_law 544 = .ok (.ireturn, 1) := by decide +kernel
theorem dL_law_545 : decode cL_law 545 = .ok (.aload_n 1, 1) := by decide +kernel
theorem dL_law_546 : decode cL_law 546 = .ok (.aload_n 0, 1) := by decide +kernel
theorem dL_law_547 : decode cL_law 547 = .ok (.iload_n 3, 1) := by decide +kernel
theorem dL_law_548 : decode cL_law 548 = .ok (.iconst 1, 1) := by decide +kernel
theorem dL_law_549 : decode cL_law 549 = .ok (.iadd, 1) := by decide +kernel
theorem dL_law_550 : decode cL_law 550 = .ok (.iaload, 1) := by decide +kernel
theorem dL_law_551 : decode cL_law 551 = .ok (.aload_n 0, 1) := by decide +kernel
theorem dL_law_552 : decode cL_law 552 = .ok (.iload_n 3, 1) := by decide +kernel
theorem dL_law_553 : decode cL_law 553 = .ok (.iconst 2, 1) := by decide +kernel
theorem dL_law_554 : decode cL_law 554 = .ok (.iadd, 1) := by decide +kernel
theorem dL_law_555 : decode cL_law 555 = .ok (.iaload, 1) := by decide +kernel
theorem dL_law_556 : decode cL_law 556 = .ok (.invokevirtual 71, 3) := by decide +kernel
theorem dL_law_559 : decode cL_law 559 = .ok (.aload_n 2, 1) := by decide +kernel
theorem dL_law_560 : decode cL_law 560 = .ok (.aload_n 0, 1) := by decide +kernel
theorem dL_law_561 : decode cL_law 561 = .ok (.iload_n 3, 1) := by decide +kernel
theorem dL_law_562 : decode cL_law 562 = .ok (.iconst 1, 1) := by decide +kernel
theorem dL_law_563 : decode cL_law 563 = .ok (.iadd, 1) := by decide +kernel
theorem dL_law_564 : decode cL_law 564 = .ok (.iaload, 1) := by decide +kernel
theorem dL_law_565 : decode cL_law 565 = .ok (.aload_n 0, 1) := by decide +kernel
theorem dL_law_566 : decode cL_law 566 = .ok (.iload_n 3, 1) := by decide +kernel
theorem dL_law_567 : decode cL_law 567 = .ok (.iconst 2, 1) := by decide +kernel
theorem dL_law_568 : decode cL_law 568 = .ok (.iadd, 1) := by decide +kernel
theorem dL_law_569 : decode cL_law 569 = .ok (.iaload, 1) := by decide +kernel
theorem dL_law_570 : decode cL_law 570 = .ok (.invokevirtual 74, 3) := by decide +kernel
theorem dL_law_573 : decode cL_law 573 = .ok (.if_icmp .eq 149, 3) := by decide +kernel
theorem dL_law_576 : decode cL_law 576 = .ok (.iconst 0, 1) := by decide +kernel
theorem dL_law_577 : decode cL_law 577 = .ok (.ireturn, 1) := by decide +kernel
theorem dL_law_578 : decode cL_law 578 = .ok (.aload_n 1, 1) := by decide +kernel
theorem dL_law_579 : decode cL_law 579 = .ok (.aload_n 0, 1) := by decide +kernel
theorem dL_law_580 : decode cL_law 580 = .ok (.iload_n 3, 1) := by decide +kernel
theorem dL_law_581 : decode cL_law 581 = .ok (.iconst 1, 1) := by decide +kernel
theorem dL_law_582 : decode cL_law 582 = .ok (.iadd, 1) := by decide +kernel
theorem dL_law_583 : decode cL_law 583 = .ok (.iaload, 1) := by decide +kernel
theorem dL_law_584 : decode cL_law 584 = .ok (.invokevirtual 75, 3) := by decide +kernel
theorem dL_law_587 : decode cL_law 587 = .ok (.aload_n 2, 1) := by decide +kernel
theorem dL_law_588 : decode cL_law 588 = .ok (.aload_n 0, 1) := by decide +kernel
theorem dL_law_589 : decode cL_law 589 = .ok (.iload_n 3, 1) := by decide +kernel
theorem dL_law_590 : decode cL_law 590 = .ok (.iconst 1, 1) := by decide +kernel
theorem dL_law_591 : decode cL_law 591 = .ok (.iadd, 1) := by decide +kernel
theorem dL_law_592 : decode cL_law 592 = .ok (.iaload, 1) := by decide +kernel
theorem dL_law_593 : decode cL_law 593 = .ok (.invokevirtual 78, 3) := by decide +kernel
theorem dL_law_596 : decode cL_law 596 = .ok (.if_icmp .eq 126, 3) := by decide +kernel
theorem dL_law_599 : decode cL_law 599 = .ok (.iconst 0, 1) := by decide +kernel
theorem dL_law_600 : decode cL_law 600 = .ok (.ireturn, 1) := by decide +kernel
theorem dL_law_601 : decode cL_law 601 = .ok (.aload_n 1, 1) := by decide +kernel
theorem dL_law_602 : decode cL_law 602 = .ok (.aload_n 0, 1) := by decide +kernel
theorem dL_law_603 : decode cL_law 603 = .ok (.iload_n 3, 1) := by decide +kernel
theorem dL_law_604 : decode cL_law 604 = .ok (.iconst 1, 1) := by decide +kernel
theorem dL_law_605 : decode cL_law 605 = .ok (.iadd, 1) := by decide +kernel
theorem dL_law_606 : decode cL_law 606 = .ok (.iaload, 1) := by decide +kernel
theorem dL_law_607 : decode cL_law 607 = .ok (.invokevirtual 79, 3) := by decide +kernel
theorem dL_law_610 : decode cL_law 610 = .ok (.aload_n 2, 1) := by decide +kernel
theorem dL_law_611 : decode cL_law 611 = .ok (.aload_n 0, 1) := by decide +kernel
theorem dL_law_612 : decode cL_law 612 = .ok (.iload_n 3, 1) := by decide +kernel
theorem dL_law_613 : decode cL_law 613 = .ok (.iconst 1, 1) := by decide +kernel
theorem dL_law_614 : decode cL_law 614 = .ok (.iadd, 1) := by decide +kernel
theorem dL_law_615 : decode cL_law 615 = .ok (.iaload, 1) := by decide +kernel
theorem dL_law_616 : decode cL_law 616 = .ok (.invokevirtual 82, 3) := by decide +kernel
theorem dL_law_619 : decode cL_law 619 = .ok (.if_icmp .eq 103, 3) := by decide +kernel
theorem dL_law_622 : decode cL_law 622 = .ok (.iconst 0, 1) := by decide +kernel
theorem dL_law_623 : decode cL_law 623 = .ok (.ireturn, 1) := by decide +kernel
theorem dL_law_624 : decode cL_law 624 = .ok (.aload_n 1, 1) := by decide +kernel
theorem dL_law_625 : decode cL_law 625 = .ok (.aload_n 0, 1) := by decide +kernel
theorem dL_law_626 : decode cL_law 626 = .ok (.iload_n 3, 1) := by decide +kernel
theorem dL_law_627 : decode cL_law 627 = .ok (.iconst 1, 1) := by decide +kernel
theorem dL_law_628 : decode cL_law 628 = .ok (.iadd, 1) := by decide +kernel
theorem dL_law_629 : decode cL_law 629 = .ok (.iaload, 1) := by decide +kernel
theorem dL_law_630 : decode cL_law 630 = .ok (.invokevirtual 83, 3) := by decide +kernel
theorem dL_law_633 : decode cL_law 633 = .ok (.aload_n 2, 1) := by decide +kernel
theorem dL_law_634 : decode cL_law 634 = .ok (.aload_n 0, 1) := by decide +kernel
theorem dL_law_635 : decode cL_law 635 = .ok (.iload_n 3, 1) := by decide +kernel
theorem dL_law_636 : decode cL_law 636 = .ok (.iconst 1, 1) := by decide +kernel
theorem dL_law_637 : decode cL_law 637 = .ok (.iadd, 1) := by decide +kernel
theorem dL_law_638 : decode cL_law 638 = .ok (.iaload, 1) := by decide +kernel
theorem dL_law_639 : decode cL_law 639 = .ok (.invokevirtual 86, 3) := by decide +kernel
theorem dL_law_642 : decode cL_law 642 = .ok (.if_icmp .eq 80, 3) := by decide +kernel
theorem dL_law_645 : decode cL_law 645 = .ok (.iconst 0, 1) := by decide +kernel
theorem dL_law_646 : decode cL_law 646 = .ok (.ireturn, 1) := by decide +kernel
theorem dL_law_647 : decode cL_law 647 = .ok (.aload_n 1, 1) := by decide +kernel
theorem dL_law_648 : decode cL_law 648 = .ok (.invokevirtual 87, 3) := by decide +kernel
theorem dL_law_651 : decode cL_law 651 = .ok (.aload_n 2, 1) := by decide +kernel
theorem dL_law_652 : decode cL_law 652 = .ok (.invokevirtual 90, 3) := by decide +kernel
theorem dL_law_655 : decode cL_law 655 = .ok (.if_icmp .eq 67, 3) := by decide +kernel
theorem dL_law_658 : decode cL_law 658 = .ok (.iconst 0, 1) := by decide +kernel
theorem dL_law_659 : decode cL_law 659 = .ok (.ireturn, 1) := by decide +kernel
theorem dL_law_660 : decode cL_law 660 = .ok (.aload_n 1, 1) := by decide +kernel
theorem dL_law_661 : decode cL_law 661 = .ok (.invokevirtual 91, 3) := by decide +kernel
theorem dL_law_664 : decode cL_law 664 = .ok (.aload_n 2, 1) := by decide +kernel
theorem dL_law_665 : decode cL_law 665 = .ok (.invokevirtual 94, 3) := by decide +kernel
theorem dL_law_668 : decode cL_law 668 = .ok (.if_icmp .eq 54, 3) := by decide +kernel
theorem dL_law_671 : decode cL_law 671 = .ok (.iconst 0, 1) := by decide +kernel
theorem dL_law_672 : decode cL_law 672 = .ok (.ireturn, 1) := by decide +kernel
theorem dL_law_673 : decode cL_law 673 = .ok (.aload_n 1, 1) := by decide +kernel
theorem dL_law_674 : decode cL_law 674 = .ok (.aload_n 0, 1) := by decide +kernel
theorem dL_law_675 : decode cL_law 675 = .ok (.iload_n 3, 1) := by decide +kernel
theorem dL_law_676 : decode cL_law 676 = .ok (.iconst 1, 1) := by decide +kernel
theorem dL_law_677 : decode cL_law 677 = .ok (.iadd, 1) := by decide +kernel
theorem dL_law_678 : decode cL_law 678 = .ok (.iaload, 1) := by decide +kernel
theorem dL_law_679 : decode cL_law 679 = .ok (.invokevirtual 95, 3) := by decide +kernel
theorem dL_law_682 : decode cL_law 682 = .ok (.aload_n 2, 1) := by decide +kernel
theorem dL_law_683 : decode cL_law 683 = .ok (.aload_n 0, 1) := by decide +kernel
theorem dL_law_684 : decode cL_law 684 = .ok (.iload_n 3, 1) := by decide +kernel
theorem dL_law_685 : decode cL_law 685 = .ok (.iconst 1, 1) := by decide +kernel
theorem dL_law_686 : decode cL_law 686 = .ok (.iadd, 1) := by decide +kernel
theorem dL_law_687 : decode cL_law 687 = .ok (.iaload, 1) := by decide +kernel
theorem dL_law_688 : decode cL_law 688 = .ok (.invokevirtual 98, 3) := by decide +kernel
theorem dL_law_691 : decode cL_law 691 = .ok (.if_icmp .eq 31, 3) := by decide +kernel
theorem dL_law_694 : decode cL_law 694 = .ok (.iconst 0, 1) := by decide +kernel
theorem dL_law_695 : decode cL_law 695 = .ok (.ireturn, 1) := by decide +kernel
theorem dL_law_696 : decode cL_law 696 = .ok (.aload_n 1, 1) := by decide +kernel
theorem dL_law_697 : decode cL_law 697 = .ok (.invokevirtual 99, 3) := by decide +kernel
theorem dL_law_700 : decode cL_law 700 = .ok (.aload_n 2, 1) := by decide +kernel
theorem dL_law_701 : decode cL_law 701 = .ok (.invokevirtual 102, 3) := by decide +kernel
theorem dL_law_704 : decode cL_law 704 = .ok (.if_icmp .eq 18, 3) := by decide +kernel
theorem dL_law_707 : decode cL_law 707 = .ok (.iconst 0, 1) := by decide +kernel
theorem dL_law_708 : decode cL_law 708 = .ok (.ireturn, 1) := by decide +kernel
theorem dL_law_709 : decode cL_law 709 = .ok (.aload_n 1, 1) := by decide +kernel
theorem dL_law_710 : decode cL_law 710 = .ok (.invokevirtual 103, 3) := by decide +kernel
theorem dL_law_713 : decode cL_law 713 = .ok (.aload_n 2, 1) := by decide +kernel
theorem dL_law_714 : decode cL_law 714 = .ok (.invokevirtual 106, 3) := by decide +kernel
theorem dL_law_717 : decode cL_law 717 = .ok (.if_icmp .eq 5, 3) := by decide +kernel
theorem dL_law_720 : decode cL_law 720 = .ok (.iconst 0, 1) := by decide +kernel
theorem dL_law_721 : decode cL_law 721 = .ok (.ireturn, 1) := by decide +kernel
theorem dL_law_722 : decode cL_law 722 = .ok (.iinc 3 6, 3) := by decide +kernel
theorem dL_law_725 : decode cL_law 725 = .ok (.goto (-707), 3) := by decide +kernel
theorem dL_law_728 : decode cL_law 728 = .ok (.iconst 1, 1) := by decide +kernel
theorem dL_law_729 : decode cL_law 729 = .ok (.ireturn, 1) := by decide +kernel
end
section

/-! THE LAYER: all cells of the class (0..75) and of the reference (76..90) in one world of fixed shape; what they hold is one function I : cell -> place -> int -/
def gtbl : List Cond := lw_tbl.filter goodWord
theorem gtbl_good {c c' : Cond} (h : c' ∈ gtbl) : GoodIn (c :: gtbl) (c' :: gtbl) := by
  intro w hw
  have hg : w ∈ gtbl := by
    rcases List.mem_cons.mp hw with e | h1
    · rw [e]; exact h
    · exact h1
  exact ⟨List.mem_cons_of_mem _ hg, good_of_word (List.mem_filter.mp hg).2⟩
theorem gtbl_goodL {c' : Cond} (h : c' ∈ gtbl) : GoodIn gtbl (c' :: gtbl) := by
  intro w hw
  have hg : w ∈ gtbl := by
    rcases List.mem_cons.mp hw with e | h1
    · rw [e]; exact h
    · exact h1
  exact ⟨hg, good_of_word (List.mem_filter.mp hg).2⟩
theorem gtbl_sub {c : Cond} (h : c ∈ gtbl) : GoodIn gtbl [c] := by
  intro w hw
  rw [List.mem_singleton.mp hw]
  exact ⟨h, good_of_word (List.mem_filter.mp h).2⟩
abbrev gx_I : Type := Nat → Nat → Int32
/-- (classes' numbers and slots), addresses, (int[], Goods[], int[][]), (the two tables), how many cells -/
abbrev gx_G : Type := va_G × (Nat → Nat) × (ClassId × ClassId × ClassId) × (Nat × Nat) × Nat
def gx_ad (G : gx_G) : Nat → Nat := G.2.1
def gx_nc (G : gx_G) : Nat := G.2.2.2.2
abbrev gx_cl : List vw_C := [(RX0, TX0, 6), (RX1, TX1, 3), (RX2, TX2, 10), (RX3, TX3, 9), (RX4, TX4, 5), (RX5, TX5, 6), (RX6, TX6, 18)]

def gx_kT : List (Nat × Nat) := [(5, 6), (2, 10), (10, 8), (10, 8), (10, 8), (10, 8), (2, 10), (10, 8), (10, 8), (10, 8), (10, 8), (0, 6), (10, 8), (10, 8), (4, 5), (1, 3), (10, 72), (10, 48), (11, 8), (10, 8), (12, 8), (10, 20), (10, 20), (10, 20), (10, 20), (10, 20), (10, 20), (10, 20), (10, 20), (3, 9), (10, 20), (3, 9), (10, 20), (3, 9), (10, 20), (3, 9), (10, 20), (3, 9), (10, 20), (3, 9), (10, 20), (3, 9), (10, 20), (3, 9), (10, 20), (4, 5), (1, 3), (10, 72), (10, 48), (11, 8), (10, 8), (12, 8), (10, 20), (10, 20), (10, 20), (10, 20), (10, 20), (10, 20), (10, 20), (10, 20), (3, 9), (10, 20), (3, 9), (10, 20), (3, 9), (10, 20), (3, 9), (10, 20), (3, 9), (10, 20), (3, 9), (10, 20), (3, 9), (10, 20), (3, 9), (10, 20), (6, 18), (10, 6), (10, 32), (10, 38), (10, 8), (10, 8), (10, 8), (10, 8), (10, 480), (10, 3), (10, 160), (10, 8), (10, 24), (10, 8), (10, 4)]

def gx_rT : List (List Nat) := [[2, 7, 0, 15, 46, 12], [0, 0, 0, 0, 0, 0, 3, 4, 5, 6], [], [], [], [], [0, 0, 0, 0, 0, 0, 8, 9, 10, 11], [], [], [], [], [13, 14, 0, 0, 0, 0], [], [], [16, 19, 20, 0, 21], [17, 18, 0], [], [], [30, 32, 34, 36, 38, 40, 42, 44], [], [22, 23, 24, 25, 26, 27, 28, 29], [], [], [], [], [], [], [], [], [31, 0, 0, 0, 0, 0, 0, 0, 0], [], [33, 0, 0, 0, 0, 0, 0, 0, 0], [], [35, 0, 0, 0, 0, 0, 0, 0, 0], [], [37, 0, 0, 0, 0, 0, 0, 0, 0], [], [39, 0, 0, 0, 0, 0, 0, 0, 0], [], [41, 0, 0, 0, 0, 0, 0, 0, 0], [], [43, 0, 0, 0, 0, 0, 0, 0, 0], [], [45, 0, 0, 0, 0, 0, 0, 0, 0], [], [47, 50, 51, 0, 52], [48, 49, 0], [], [], [61, 63, 65, 67, 69, 71, 73, 75], [], [53, 54, 55, 56, 57, 58, 59, 60], [], [], [], [], [], [], [], [], [62, 0, 0, 0, 0, 0, 0, 0, 0], [], [64, 0, 0, 0, 0, 0, 0, 0, 0], [], [66, 0, 0, 0, 0, 0, 0, 0, 0], [], [68, 0, 0, 0, 0, 0, 0, 0, 0], [], [70, 0, 0, 0, 0, 0, 0, 0, 0], [], [72, 0, 0, 0, 0, 0, 0, 0, 0], [], [74, 0, 0, 0, 0, 0, 0, 0, 0], [], [76, 0, 0, 0, 0, 0, 0, 0, 0], [], [78, 79, 0, 80, 81, 82, 83, 84, 85, 86, 0, 87, 88, 0, 89, 90, 91, 0], [], [], [], [], [], [], [], [], [], [], [], [], [], []]


def gx_k (a : Nat) : Nat × Nat := gx_kT.getD a (99, 0)
/-- 0: a place of an int; t + 1: a reference to the cell t -/
def gx_r (a k : Nat) : Nat := (gx_rT.getD a []).getD k 0
def gx_val (G : gx_G) (I : gx_I) (a k : Nat) : Value := if gx_r a k = 0 then .int (I a k) else .ref (gx_ad G (gx_r a k - 1))
def gx_e (G : gx_G) (I : gx_I) (a : Nat) : va_E :=
  if (gx_k a).1 < 10 then .inr ((gx_k a).1, (List.range (gx_k a).2).map (gx_val G I a))
  else if (gx_k a).1 = 10 then .inl (G.2.2.1.1, (gx_k a).2, .inl (I a))
  else .inl ((if (gx_k a).1 = 11 then G.2.2.1.2.1 else G.2.2.1.2.2), (gx_k a).2, .inr (.inr (.inr (.inr (fun i => some (gx_ad G (gx_r a i - 1)))))))
def gx_w (G : gx_G) (I : gx_I) : va_W := (List.range (gx_nc G)).map (fun a => (gx_ad G a, gx_e G I a))
def gx_P (G : gx_G) (I : gx_I) (H : Heap) : Prop := va_P G.1 gx_cl (gx_w G I) H
def gx_A (G : gx_G) : Nat → Prop := fun q => ∃ i, i < gx_nc G ∧ q = gx_ad G i
def gx_OK (G : gx_G) (lo : Nat) : Prop := (∀ i j, i < gx_nc G → j < gx_nc G → gx_ad G i = gx_ad G j → i = j) ∧ lo ≤ gx_nc G
abbrev gx_ty (G : gx_G) : List (ClassId × FieldType) := [(G.2.2.1.1, .int), (G.2.2.1.2.1, .object RX3), (G.2.2.1.2.2, .array .int)]
def gx_up (I : gx_I) (a k : Nat) (x : Int32) : gx_I := fun a' k' => if a' = a ∧ k' = k then x else I a' k'
theorem gx_up_self (I : gx_I) (a k : Nat) (x : Int32) : gx_up I a k x a k = x := by simp [gx_up]
theorem gx_up_ne {I : gx_I} {a k a' k' : Nat} {x : Int32} (h : ¬ (a' = a ∧ k' = k)) : gx_up I a k x a' k' = I a' k' := by simp only [gx_up, if_neg h]
theorem gx_w_get {G : gx_G} {I : gx_I} {a : Nat} (h : a < gx_nc G) : (gx_w G I)[a]? = some (gx_ad G a, gx_e G I a) := by
  simp [gx_w, h]
theorem gx_w_lt {G : gx_G} {I : gx_I} {a : Nat} {q : Nat × va_E} (h : (gx_w G I)[a]? = some q) : a < gx_nc G ∧ q = (gx_ad G a, gx_e G I a) := by
  have h1 : a < gx_nc G := by
    have := (List.getElem?_eq_some_iff.mp h).1
    simpa [gx_w] using this
  rw [gx_w_get h1] at h
  exact ⟨h1, (Option.some.inj h).symm⟩
theorem gx_D {G : gx_G} {lo : Nat} (hG : gx_OK G lo) (I : gx_I) {A : Nat → Prop} (hA : ∀ q, gx_A G q → A q) : va_D A (gx_w G I) := by
  refine ⟨fun i j p q hp hq e => ?_, fun k q hq => ?_⟩
  · obtain ⟨h1, rfl⟩ := gx_w_lt hp
    obtain ⟨h2, rfl⟩ := gx_w_lt hq
    exact hG.1 i j h1 h2 e
  · obtain ⟨h1, rfl⟩ := gx_w_lt hq
    exact hA _ ⟨k, h1, rfl⟩
theorem gx_e_obj {G : gx_G} {I : gx_I} {a ci n : Nat} (h : gx_k a = (ci, n)) (hc : ci < 10) : gx_e G I a = .inr (ci, (List.range n).map (gx_val G I a)) := by
  simp [gx_e, h, hc]
theorem gx_e_arr {G : gx_G} {I : gx_I} {a n : Nat} (h : gx_k a = (10, n)) : gx_e G I a = .inl (G.2.2.1.1, n, .inl (I a)) := by
  simp [gx_e, h]
theorem gx_e_ne {G : gx_G} {I : gx_I} {a a' k : Nat} {x : Int32} (h : a' ≠ a) : gx_e G (gx_up I a k x) a' = gx_e G I a' := by
  have e : gx_up I a k x a' = I a' := funext fun j => gx_up_ne (fun q => h q.1)
  have e2 : gx_val G (gx_up I a k x) a' = gx_val G I a' := funext fun j => by simp only [gx_val, e]
  simp only [gx_e, e, e2]
theorem gx_w_set {G : gx_G} {I : gx_I} {a k : Nat} {x : Int32} {e : va_E} (h : gx_e G (gx_up I a k x) a = e) : (gx_w G I).set a (gx_ad G a, e) = gx_w G (gx_up I a k x) := by
  refine List.ext_getElem? fun i => ?_
  by_cases hi : i < gx_nc G
  · rw [gx_w_get hi]
    by_cases e1 : a = i
    · subst e1
      rw [List.getElem?_set_self (by simpa [gx_w] using hi), h]
    · rw [List.getElem?_set_ne e1, gx_w_get hi, gx_e_ne (Ne.symm e1)]
  · rw [List.getElem?_eq_none (by simpa [gx_w] using hi), List.getElem?_eq_none (by simpa [gx_w] using hi)]
theorem gx_set_obj {G : gx_G} {I : gx_I} {a ci n k : Nat} {x : Int32} (h : gx_k a = (ci, n)) (hc : ci < 10) (hk : k < n) (hr : gx_r a k = 0) : (gx_w G I).set a (gx_ad G a, .inr (ci, ((List.range n).map (gx_val G I a)).set k (.int x))) = gx_w G (gx_up I a k x) := by
  refine gx_w_set ?_
  rw [gx_e_obj h hc]
  congr 2
  refine List.ext_getElem? fun i => ?_
  by_cases e1 : k = i
  · subst e1
    rw [List.getElem?_set_self (by simpa using hk)]
    simp [hk, gx_val, hr, gx_up]
  · rw [List.getElem?_set_ne e1]
    by_cases hi : i < n
    · have hv : gx_val G (gx_up I a k x) a i = gx_val G I a i := by simp only [gx_val, gx_up_ne (fun q => e1 q.2.symm)]
      simp [hi, hv]
    · simp [hi]
theorem gx_set_arr {G : gx_G} {I : gx_I} {a n k : Nat} {x : Int32} (h : gx_k a = (10, n)) : (gx_w G I).set a (gx_ad G a, .inl (G.2.2.1.1, n, .inl (upd (I a) k x))) = gx_w G (gx_up I a k x) := by
  refine gx_w_set ?_
  rw [gx_e_arr h]
  congr 4
  funext j
  by_cases e : j = k
  · simp [gx_up, upd, e]
  · simp [gx_up, upd, e]
def gx_rowN (j : Nat) : Int32 := match j with
  | 0 => 16
  | 1 => 1
  | 2 => 145
  | 3 => 137
  | 4 => 1041
  | _ => 521
def gx_turnN (j : Nat) : Int32 := match j with
  | 0 => 3
  | 1 => 0
  | 2 => 1
  | _ => 0
/-- what holds of the tables (classes, arrays, the two static tables, nest links) -/
def gx_KA (G : gx_G) (A : Nat → Prop) (U : State) : Prop := va_K G.1 gx_cl (gx_ty G) U ∧
  (va_Z "BassButtons" "ROW_NOTES" "[I" (.ref G.2.2.2.1.1) A U U.heap ∧ va_T .int G.2.2.2.1.1 6 (fun j => .int (gx_rowN j)) A U U.heap) ∧
  (va_Z "BassButtons" "TURN_COSTS" "[I" (.ref G.2.2.2.1.2) A U U.heap ∧ va_T .int G.2.2.2.1.2 4 (fun j => .int (gx_turnN j)) A U U.heap) ∧
  va_Nw (.fieldLinkNest RX1 22 "BassButtons" "ROW_NOTES" "[I" "BassButtons") U ∧ va_Nw (.fieldLinkNest RX0 82 "BassButtons" "TURN_COSTS" "[I" "BassButtons") U ∧ va_Nw (.methodLinkNest RX1 25 yX5_rootOf "BassButtons") U
abbrev gx_K (G : gx_G) (U : State) : Prop := gx_KA G (gx_A G) U
theorem gx_K_frame {G : gx_G} {U : State} {g : JFrame} {mk : MethodId} {a : Array Value} (h : gx_K G U) : gx_K G (U.calling g mk a) := by
  have hv := Vm.Alike.refl U.vm
  obtain ⟨h1, ⟨h2, h3⟩, ⟨h4, h5⟩, h6, h7, h8⟩ := h
  exact ⟨va_K.moved (u := U) (U := U.calling g mk a) hv h1, ⟨va_Z.moved (u := U) (U := U.calling g mk a) hv h2, va_T.moved (u := U) (U := U.calling g mk a) hv h3⟩, ⟨va_Z.moved (u := U) (U := U.calling g mk a) hv h4, va_T.moved (u := U) (U := U.calling g mk a) hv h5⟩, va_Nw.same rfl rfl h6, va_Nw.same rfl rfl h7, va_Nw.same rfl rfl h8⟩
theorem gx_K_to {G : gx_G} {A : Nat → Prop} {s U : State} {H : Heap} {locs : List Loc} (h : gx_KA G A s) (hA : ∀ q, gx_A G q → A q) (hS : va_S A s.heap H locs) (hU : U.heap = H) (hW : s.WarmedH U.vm) : gx_K G U := by
  obtain ⟨h1, ⟨h2, h3⟩, ⟨h4, h5⟩, h6, h7, h8⟩ := h
  subst hU
  exact ⟨va_K.moved hW.alike h1, ⟨((h2.kept hS.2.1).moved hW.alike).narrow hA, ((h3.kept hS.2.1).moved hW.alike).narrow hA⟩, ⟨((h4.kept hS.2.1).moved hW.alike).narrow hA, ((h5.kept hS.2.1).moved hW.alike).narrow hA⟩, va_Nw.warmF hW h6, va_Nw.warmF hW h7, va_Nw.warmM hW h8⟩
/-- the fixed things of a walk: machine, launch, room, start, frame, method, code, what is to be reached, the cells that may change, cells and slots so far -/
abbrev gx_X : Type := Program × Launch × Env × Room × State × MethodId × Array Value × List Frame × Method × Code × (State → Prop) × (Nat → Prop) × Nat × Nat
def gx_WH (X : gx_X) (H : Heap) (locs : List Loc) (pc : Nat) (ls : Array Slot) (st : List Value) : Prop :=
  match X with
  | (p, l, e, R, s, m, args, below, meth, c, Q, _, k, n) => W p l e R s m args below meth c H locs k n Q (F0 m pc ls st)
def gx_SS (X : gx_X) (H : Heap) (locs : List Loc) : Prop :=
  match X with
  | (_, _, _, _, s, _, _, _, _, _, _, A, _, _) => va_S A s.heap H locs
/-- THE WALK'S JUDGEMENT -/
def gx_WG (G : gx_G) (X : gx_X) (nL : Nat) (I : gx_I) (pc : Nat) (lv : List (Nat × Value)) (st : List Value) : Prop :=
  ∀ (H : Heap) (locs : List Loc) (ls : Array Slot), gx_P G I H → gx_SS X H locs → lv_has ls nL lv → gx_WH X H locs pc ls st
def gx_B (G : gx_G) (X : gx_X) (own : String) (cc : ByteArray) (nL : Nat) (rm : Room) (lo : Nat) : Prop :=
  match X with
  | (p, _, _, R, s, m, args, _, _, c, _, A, k, n) => (p.tables.exec = Jvm.exec ∧ c.code = cc ∧ c.maxLocals = nL ∧ s.vm.findClass own = some m.cls ∧ (∀ w ∈ gtbl, w.before args s = true)) ∧ gx_KA G A s ∧ R = rm ∧ gx_OK G lo ∧ (∀ q, gx_A G q → A q) ∧ k ≤ R.cells ∧ n ≤ R.slots
def gx_Ri (G : gx_G) (X : gx_X) (ret : FieldType) (post : Int32 → gx_I → Prop) : Prop :=
  match X with
  | (_, _, _, _, s, _, args, below, meth, _, Q, A, k, n) => meth.sig.returnType = some ret ∧ meth.locks = false ∧ A = gx_A G ∧ Q = MQ below (va_Qi post (fun I' t => gx_P G I' t.heap) (gx_A G)) args s k n (gx_A G)
def gx_Rv (G : gx_G) (X : gx_X) (post : gx_I → Prop) : Prop :=
  match X with
  | (_, _, _, _, s, _, args, below, meth, _, Q, A, k, n) => meth.sig.returnType = none ∧ meth.locks = false ∧ A = gx_A G ∧ Q = MQ below (va_Qv post (fun I' t => gx_P G I' t.heap) (gx_A G)) args s k n (gx_A G)
def gx_la (X : gx_X) : Launch := X.2.1
/-- A CONTRACT: from the world I, with these arguments -/
def gx_Mi (l : Launch) (G : gx_G) (y : MethodName) (cb : ByteArray) (nb : Nat) (rt : FieldType) (rm : Room) (av : List Value) (I : gx_I) (post : Int32 → gx_I → Prop) : Prop :=
  Met l y (.code y cb nb (some rt) :: gtbl) rm (va_Pc av (fun U => gx_P G I U.heap ∧ gx_K G U)) (va_Qi post (fun I' t => gx_P G I' t.heap) (gx_A G)) 0 0 (gx_A G)
def gx_Mv (l : Launch) (G : gx_G) (y : MethodName) (cb : ByteArray) (nb : Nat) (rm : Room) (av : List Value) (I : gx_I) (post : gx_I → Prop) : Prop :=
  Met l y (.code y cb nb none :: gtbl) rm (va_Pc av (fun U => gx_P G I U.heap ∧ gx_K G U)) (va_Qv post (fun I' t => gx_P G I' t.heap) (gx_A G)) 0 0 (gx_A G)
theorem gx_mi {l : Launch} {G : gx_G} {y : MethodName} {cb : ByteArray} {nb lo : Nat} {rt : FieldType} {rm : Room} {av : List Value} {I : gx_I} {post : Int32 → gx_I → Prop} (hG : gx_OK G lo) (hy : plainName y.cls = true) (hn : (lg_sl av).length ≤ nb)
    (body : ∀ X : gx_X, gx_la X = l → gx_B G X y.cls cb nb rm lo → gx_Ri G X rt post → gx_WG G X nb I 0 (lv_args 0 av) []) : gx_Mi l G y cb nb rt rm av I post := by
  refine Met.ofW (cc := cb) (maxL := nb) (ret := some rt) hy rfl ?_
  intro p e s m args below meth c s₁ B hml hv
  obtain ⟨rfl, hP, hK⟩ := hv
  have hts := atoms_spec (ws := .code y cb nb (some rt) :: gtbl) B.pre
  have hl := lv_entry av (n := nb) hn
  rw [lg_entry_eq]
  exact body (p, l, e, rm, s, m, av.toArray, below, meth, c, _, gx_A G, 0, 0) rfl ⟨⟨B.exec, B.bytes, hml, findClass_of_methodNamed B.named, fun w hw => hts w (List.mem_cons_of_mem _ hw)⟩, hK, rfl, hG, fun _ h => h, Nat.zero_le _, Nat.zero_le _⟩ ⟨B.returns, B.notSynchronized, rfl, rfl⟩ s.heap [] _ hP va_S.rf hl
theorem gx_mv {l : Launch} {G : gx_G} {y : MethodName} {cb : ByteArray} {nb lo : Nat} {rm : Room} {av : List Value} {I : gx_I} {post : gx_I → Prop} (hG : gx_OK G lo) (hy : plainName y.cls = true) (hn : (lg_sl av).length ≤ nb)
    (body : ∀ X : gx_X, gx_la X = l → gx_B G X y.cls cb nb rm lo → gx_Rv G X post → gx_WG G X nb I 0 (lv_args 0 av) []) : gx_Mv l G y cb nb rm av I post := by
  refine Met.ofW (cc := cb) (maxL := nb) (ret := none) hy rfl ?_
  intro p e s m args below meth c s₁ B hml hv
  obtain ⟨rfl, hP, hK⟩ := hv
  have hts := atoms_spec (ws := .code y cb nb none :: gtbl) B.pre
  have hl := lv_entry av (n := nb) hn
  rw [lg_entry_eq]
  exact body (p, l, e, rm, s, m, av.toArray, below, meth, c, _, gx_A G, 0, 0) rfl ⟨⟨B.exec, B.bytes, hml, findClass_of_methodNamed B.named, fun w hw => hts w (List.mem_cons_of_mem _ hw)⟩, hK, rfl, hG, fun _ h => h, Nat.zero_le _, Nat.zero_le _⟩ ⟨B.returns, B.notSynchronized, rfl, rfl⟩ s.heap [] _ hP va_S.rf hl
section GX
variable {G : gx_G} {X : gx_X} {own : String} {cc : ByteArray} {nL lo : Nat} {rm : Room} {I : gx_I} {pc : Nat} {lv : List (Nat × Value)} {st : List Value}
/-- a value of the locals -/
def gx_lg (lv : List (Nat × Value)) (k : Nat) : Option Value := match lv with
  | [] => none
  | (i, v) :: t => if i = k then some v else gx_lg t k
theorem gx_lg_mem {lv : List (Nat × Value)} {k : Nat} {v : Value} (h : gx_lg lv k = some v) : (k, v) ∈ lv := by
  induction lv with
  | nil => cases h
  | cons q t ih =>
    obtain ⟨i, w⟩ := q
    unfold gx_lg at h
    by_cases e : i = k
    · rw [if_pos e] at h
      cases h
      subst e
      exact List.mem_cons_self
    · rw [if_neg e] at h
      exact List.mem_cons_of_mem _ (ih h)
theorem gx_lv_at {ls : Array Slot} {k : Nat} {v : Value} (h : lv_has ls nL lv) (hk : gx_lg lv k = some v) : ls[k]? = some (.val v) := h.2.2 (k, v) (gx_lg_mem hk)
/-- the locals behind a store -/
def gx_ls (lv : List (Nat × Value)) (k : Nat) (v : Value) : List (Nat × Value) := match lv with
  | [] => [(k, v)]
  | (i, w) :: t => if i = k then (k, v) :: t else if k < i then (k, v) :: (i, w) :: t else (i, w) :: gx_ls t k v
theorem gx_ls_mem {lv : List (Nat × Value)} {k : Nat} {v : Value} {q : Nat × Value} (h : q ∈ gx_ls lv k v) : q = (k, v) ∨ (q ∈ lv) := by
  induction lv with
  | nil => exact Or.inl (List.mem_singleton.mp h)
  | cons x t ih =>
    obtain ⟨i, w⟩ := x
    unfold gx_ls at h
    by_cases e : i = k
    · rw [if_pos e] at h
      rcases List.mem_cons.mp h with h | h
      · exact Or.inl h
      · exact Or.inr (List.mem_cons_of_mem _ h)
    · rw [if_neg e] at h
      by_cases e2 : k < i
      · rw [if_pos e2] at h
        rcases List.mem_cons.mp h with h | h
        · exact Or.inl h
        · exact Or.inr h
      · rw [if_neg e2] at h
        rcases List.mem_cons.mp h with h | h
        · exact Or.inr (by rw [h]; exact List.mem_cons_self)
        · rcases ih h with h | h
          · exact Or.inl h
          · exact Or.inr (List.mem_cons_of_mem _ h)
/-- no other place of the list is the one that is stored to, no wide value stands ahead of it: decided at each store -/
def gx_lok (lv lv' : List (Nat × Value)) (k : Nat) (v : Value) : Prop := ∀ q ∈ lv', q = (k, v) ∨ (q ∈ lv ∧ ¬ q.1 = k ∧ q.2.category = 1)
theorem gx_lst {ls : Array Slot} {k : Nat} {v : Value} {lv' l2 : List (Nat × Value)} (hl : gx_lok lv lv' k v) (hv : l2 = (k, v) :: lv.filter (fun q => !(q.1 == k) && !(q.1 + 1 == k && q.2.category == 2))) (h : lv_has ls nL l2) : lv_has ls nL lv' := by
  refine ⟨h.1, h.2.1, fun q hq => h.2.2 q ?_⟩
  rw [hv]
  rcases hl q hq with e | ⟨h1, h2, h3⟩
  · rw [e]; exact List.mem_cons_self
  · refine List.mem_cons_of_mem _ (List.mem_filter.mpr ⟨h1, ?_⟩)
    have e1 : (q.1 == k) = false := by simpa using h2
    have e2 : (q.2.category == 2) = false := by rw [h3]; rfl
    rw [e1, e2]
    simp
theorem gx_lok_nil {lv : List (Nat × Value)} {k : Nat} {v : Value} : gx_lok lv [] k v := fun q h => by cases h
theorem gx_lok_new {lv lv' : List (Nat × Value)} {k : Nat} {v : Value} (h : gx_lok lv lv' k v) : gx_lok lv ((k, v) :: lv') k v := fun q hq => by
  rcases List.mem_cons.mp hq with e | e
  · exact Or.inl e
  · exact h q e
theorem gx_lok_i {lv lv' : List (Nat × Value)} {k i : Nat} {v : Value} {x : Int32} (h : gx_lok lv lv' k v) (hi : ¬ i = k) (hg : gx_lg lv i = some (.int x)) : gx_lok lv ((i, .int x) :: lv') k v := fun q hq => by
  rcases List.mem_cons.mp hq with e | e
  · exact Or.inr (by rw [e]; exact ⟨gx_lg_mem hg, hi, rfl⟩)
  · exact h q e
theorem gx_lok_r {lv lv' : List (Nat × Value)} {k i : Nat} {v : Value} {x : Nat} (h : gx_lok lv lv' k v) (hi : ¬ i = k) (hg : gx_lg lv i = some (.ref x)) : gx_lok lv ((i, .ref x) :: lv') k v := fun q hq => by
  rcases List.mem_cons.mp hq with e | e
  · exact Or.inr (by rw [e]; exact ⟨gx_lg_mem hg, hi, rfl⟩)
  · exact h q e

end GX
end
section

section GX
variable {G : gx_G} {X : gx_X} {own : String} {cc : ByteArray} {nL lo : Nat} {rm : Room} {I : gx_I} {pc : Nat} {lv : List (Nat × Value)} {st : List Value}
def gx_wf (lv : List (Nat × Value)) (lo : Nat) : Bool := match lv with
  | [] => true
  | (i, v) :: t => Nat.ble lo i && (v.category == 1 && gx_wf t (i + 1))
theorem gx_wf_mem {lv : List (Nat × Value)} : ∀ {lo : Nat}, gx_wf lv lo = true → ∀ q ∈ lv, lo ≤ q.1 ∧ q.2.category = 1 := by
  induction lv with
  | nil => intro lo _ q hq; cases hq
  | cons x t ih =>
    intro lo h q hq
    obtain ⟨i, w⟩ := x
    simp only [gx_wf, Bool.and_eq_true, beq_iff_eq] at h
    have h0 : lo ≤ i := Nat.le_of_ble_eq_true h.1
    rcases List.mem_cons.mp hq with e | e
    · rw [e]; exact ⟨h0, h.2.1⟩
    · have := ih h.2.2 q e
      exact ⟨by omega, this.2⟩
theorem gx_lok_ls {k : Nat} {v : Value} : ∀ (lv : List (Nat × Value)) (lo : Nat), gx_wf lv lo = true → gx_lok lv (gx_ls lv k v) k v := by
  intro lv
  induction lv with
  | nil =>
    intro lo _ q hq
    exact Or.inl (List.mem_singleton.mp hq)
  | cons x t ih =>
    intro lo h q hq
    obtain ⟨i, w⟩ := x
    have hw := h
    simp only [gx_wf, Bool.and_eq_true, beq_iff_eq] at h
    unfold gx_ls at hq
    by_cases e : i = k
    · rw [if_pos e] at hq
      rcases List.mem_cons.mp hq with e1 | e1
      · exact Or.inl e1
      · have := gx_wf_mem h.2.2 q e1
        exact Or.inr ⟨List.mem_cons_of_mem _ e1, by omega, this.2⟩
    · rw [if_neg e] at hq
      by_cases e2 : k < i
      · rw [if_pos e2] at hq
        rcases List.mem_cons.mp hq with e1 | e1
        · exact Or.inl e1
        · rcases List.mem_cons.mp e1 with e3 | e3
          · exact Or.inr (by rw [e3]; exact ⟨List.mem_cons_self, e, h.2.1⟩)
          · have := gx_wf_mem h.2.2 q e3
            exact Or.inr ⟨List.mem_cons_of_mem _ e3, by omega, this.2⟩
      · rw [if_neg e2] at hq
        rcases List.mem_cons.mp hq with e1 | e1
        · exact Or.inr (by rw [e1]; exact ⟨List.mem_cons_self, e, h.2.1⟩)
        · rcases ih _ h.2.2 q e1 with e4 | ⟨h1, h2, h3⟩
          · exact Or.inl e4
          · exact Or.inr ⟨List.mem_cons_of_mem _ h1, h2, h3⟩

theorem gx_iconst {n : Int} {v : Int32} (B : gx_B G X own cc nL rm lo) (hd : decode cc pc = .ok (.iconst n, 1)) (hv : Int32.ofInt n = v) (kk : gx_WG G X nL I (pc + 1) lv (.int v :: st)) : gx_WG G X nL I pc lv st := by
  obtain ⟨p, l, e, R, s, m, args, below, meth, c, Q, A, kk0, nn0⟩ := X
  obtain ⟨⟨hx, hb, hml, hown, hts⟩, hK, hR, hG, hA, hk0, hn0⟩ := B
  intro H locs ls hP hS hl
  exact lv_iconst hx hb hd hv (kk H locs ls hP hS hl)

theorem gx_bipush {n : Int} {v : Int32} (B : gx_B G X own cc nL rm lo) (hd : decode cc pc = .ok (.bipush n, 2)) (hv : (Int8.ofInt n).toInt32 = v) (kk : gx_WG G X nL I (pc + 2) lv (.int v :: st)) : gx_WG G X nL I pc lv st := by
  obtain ⟨p, l, e, R, s, m, args, below, meth, c, Q, A, kk0, nn0⟩ := X
  obtain ⟨⟨hx, hb, hml, hown, hts⟩, hK, hR, hG, hA, hk0, hn0⟩ := B
  intro H locs ls hP hS hl
  exact lv_bipush hx hb hd hv (kk H locs ls hP hS hl)

theorem gx_sipush {n : Int} {v : Int32} (B : gx_B G X own cc nL rm lo) (hd : decode cc pc = .ok (.sipush n, 3)) (hv : (Int16.ofInt n).toInt32 = v) (kk : gx_WG G X nL I (pc + 3) lv (.int v :: st)) : gx_WG G X nL I pc lv st := by
  obtain ⟨p, l, e, R, s, m, args, below, meth, c, Q, A, kk0, nn0⟩ := X
  obtain ⟨⟨hx, hb, hml, hown, hts⟩, hK, hR, hG, hA, hk0, hn0⟩ := B
  intro H locs ls hP hS hl
  exact lv_sipush hx hb hd hv (kk H locs ls hP hS hl)

theorem gx_ldc {n : Nat} {v : Int32} (B : gx_B G X own cc nL rm lo) (hd : decode cc pc = .ok (.ldc n, 2)) (hv : Cond.constant own n v ∈ gtbl) (kk : gx_WG G X nL I (pc + 2) lv (.int v :: st)) : gx_WG G X nL I pc lv st := by
  obtain ⟨p, l, e, R, s, m, args, below, meth, c, Q, A, kk0, nn0⟩ := X
  obtain ⟨⟨hx, hb, hml, hown, hts⟩, hK, hR, hG, hA, hk0, hn0⟩ := B
  intro H locs ls hP hS hl
  exact lv_ldc hx hb hown (hts _ hv) hd (kk H locs ls hP hS hl)

theorem gx_iload_n {k : Fin 4} {i : Nat} {x : Int32} (B : gx_B G X own cc nL rm lo) (hd : decode cc pc = .ok (.iload_n k, 1)) (hi : (k : Nat) = i) (hg : gx_lg lv i = some (.int x)) (kk : gx_WG G X nL I (pc + 1) lv (.int x :: st)) : gx_WG G X nL I pc lv st := by
  obtain ⟨p, l, e, R, s, m, args, below, meth, c, Q, A, kk0, nn0⟩ := X
  obtain ⟨⟨hx, hb, hml, hown, hts⟩, hK, hR, hG, hA, hk0, hn0⟩ := B
  intro H locs ls hP hS hl
  exact lv_iload_n hx hb hd hi (gx_lv_at hl hg) (kk H locs ls hP hS hl)

theorem gx_iload {i : Nat} {x : Int32} (B : gx_B G X own cc nL rm lo) (hd : decode cc pc = .ok (.iload i, 2)) (hg : gx_lg lv i = some (.int x)) (kk : gx_WG G X nL I (pc + 2) lv (.int x :: st)) : gx_WG G X nL I pc lv st := by
  obtain ⟨p, l, e, R, s, m, args, below, meth, c, Q, A, kk0, nn0⟩ := X
  obtain ⟨⟨hx, hb, hml, hown, hts⟩, hK, hR, hG, hA, hk0, hn0⟩ := B
  intro H locs ls hP hS hl
  exact lv_iload hx hb hd (gx_lv_at hl hg) (kk H locs ls hP hS hl)

theorem gx_aload_n {k : Fin 4} {i x : Nat} (B : gx_B G X own cc nL rm lo) (hd : decode cc pc = .ok (.aload_n k, 1)) (hi : (k : Nat) = i) (hg : gx_lg lv i = some (.ref x)) (kk : gx_WG G X nL I (pc + 1) lv (.ref x :: st)) : gx_WG G X nL I pc lv st := by
  obtain ⟨p, l, e, R, s, m, args, below, meth, c, Q, A, kk0, nn0⟩ := X
  obtain ⟨⟨hx, hb, hml, hown, hts⟩, hK, hR, hG, hA, hk0, hn0⟩ := B
  intro H locs ls hP hS hl
  exact lv_aload_n hx hb hd hi (gx_lv_at hl hg) (kk H locs ls hP hS hl)

theorem gx_aload {i x : Nat} (B : gx_B G X own cc nL rm lo) (hd : decode cc pc = .ok (.aload i, 2)) (hg : gx_lg lv i = some (.ref x)) (kk : gx_WG G X nL I (pc + 2) lv (.ref x :: st)) : gx_WG G X nL I pc lv st := by
  obtain ⟨p, l, e, R, s, m, args, below, meth, c, Q, A, kk0, nn0⟩ := X
  obtain ⟨⟨hx, hb, hml, hown, hts⟩, hK, hR, hG, hA, hk0, hn0⟩ := B
  intro H locs ls hP hS hl
  exact lv_aload hx hb hd (gx_lv_at hl hg) (kk H locs ls hP hS hl)

theorem gx_istore_n {k : Fin 4} {i : Nat} {x : Int32} (lv1 : Int32 → List (Nat × Value)) (B : gx_B G X own cc nL rm lo) (hd : decode cc pc = .ok (.istore_n k, 1)) (hi : (k : Nat) = i) (hn : i < nL) (hw : gx_wf lv 0 = true) (hs : ∀ v, gx_ls lv i (.int v) = lv1 v) (kk : ∀ v, v = x → gx_WG G X nL I (pc + 1) (lv1 v) st) : gx_WG G X nL I pc lv (.int x :: st) := by
  obtain ⟨p, l, e, R, s, m, args, below, meth, c, Q, A, kk0, nn0⟩ := X
  obtain ⟨⟨hx, hb, hml, hown, hts⟩, hK, hR, hG, hA, hk0, hn0⟩ := B
  intro H locs ls hP hS hl
  exact lv_istore_n hx hb hd hi hl hn rfl (fun ls1 hl1 => kk x rfl H locs ls1 hP hS (gx_lst (hs x ▸ gx_lok_ls lv 0 hw) rfl hl1))

theorem gx_istore {i : Nat} {x : Int32} (lv1 : Int32 → List (Nat × Value)) (B : gx_B G X own cc nL rm lo) (hd : decode cc pc = .ok (.istore i, 2)) (hn : i < nL) (hw : gx_wf lv 0 = true) (hs : ∀ v, gx_ls lv i (.int v) = lv1 v) (kk : ∀ v, v = x → gx_WG G X nL I (pc + 2) (lv1 v) st) : gx_WG G X nL I pc lv (.int x :: st) := by
  obtain ⟨p, l, e, R, s, m, args, below, meth, c, Q, A, kk0, nn0⟩ := X
  obtain ⟨⟨hx, hb, hml, hown, hts⟩, hK, hR, hG, hA, hk0, hn0⟩ := B
  intro H locs ls hP hS hl
  exact lv_istore hx hb hd hl hn rfl (fun ls1 hl1 => kk x rfl H locs ls1 hP hS (gx_lst (hs x ▸ gx_lok_ls lv 0 hw) rfl hl1))

theorem gx_astore_n {k : Fin 4} {i x : Nat} (lv1 : List (Nat × Value)) (B : gx_B G X own cc nL rm lo) (hd : decode cc pc = .ok (.astore_n k, 1)) (hi : (k : Nat) = i) (hn : i < nL) (hw : gx_wf lv 0 = true) (hs : gx_ls lv i (.ref x) = lv1) (kk : gx_WG G X nL I (pc + 1) lv1 st) : gx_WG G X nL I pc lv (.ref x :: st) := by
  obtain ⟨p, l, e, R, s, m, args, below, meth, c, Q, A, kk0, nn0⟩ := X
  obtain ⟨⟨hx, hb, hml, hown, hts⟩, hK, hR, hG, hA, hk0, hn0⟩ := B
  intro H locs ls hP hS hl
  exact lv_astore_n hx hb hd hi hl hn rfl (fun ls1 hl1 => kk H locs ls1 hP hS (gx_lst (hs ▸ gx_lok_ls lv 0 hw) rfl hl1))

theorem gx_astore {i x : Nat} (lv1 : List (Nat × Value)) (B : gx_B G X own cc nL rm lo) (hd : decode cc pc = .ok (.astore i, 2)) (hn : i < nL) (hw : gx_wf lv 0 = true) (hs : gx_ls lv i (.ref x) = lv1) (kk : gx_WG G X nL I (pc + 2) lv1 st) : gx_WG G X nL I pc lv (.ref x :: st) := by
  obtain ⟨p, l, e, R, s, m, args, below, meth, c, Q, A, kk0, nn0⟩ := X
  obtain ⟨⟨hx, hb, hml, hown, hts⟩, hK, hR, hG, hA, hk0, hn0⟩ := B
  intro H locs ls hP hS hl
  exact lv_astore hx hb hd hl hn rfl (fun ls1 hl1 => kk H locs ls1 hP hS (gx_lst (hs ▸ gx_lok_ls lv 0 hw) rfl hl1))


theorem gx_lg_idx {lv : List (Nat × Value)} {k : Nat} {v : Value} (h : gx_lg lv k = some v) : ∃ j : Nat, lv[j]? = some (k, v) := List.getElem?_of_mem (gx_lg_mem h)

theorem gx_iinc {i : Nat} {n : Int} {x : Int32} (d : Int32) (lv1 : Int32 → List (Nat × Value)) (B : gx_B G X own cc nL rm lo) (hd : decode cc pc = .ok (.iinc i n, 3)) (hv : Int32.ofInt n = d) (hg : gx_lg lv i = some (.int x)) (hn : i < nL) (hw : gx_wf lv 0 = true) (hs : ∀ v, gx_ls lv i (.int v) = lv1 v) (kk : ∀ v, v = x + d → gx_WG G X nL I (pc + 3) (lv1 v) st) : gx_WG G X nL I pc lv st := by
  obtain ⟨p, l, e, R, s, m, args, below, meth, c, Q, A, kk0, nn0⟩ := X
  obtain ⟨⟨hx, hb, hml, hown, hts⟩, hK, hR, hG, hA, hk0, hn0⟩ := B
  intro H locs ls hP hS hl
  obtain ⟨j, hj⟩ := gx_lg_idx hg
  subst hv
  exact lv_iinc hx hb hd hl hj rfl hn rfl (fun ls1 hl1 => kk _ rfl H locs ls1 hP hS (gx_lst (hs _ ▸ gx_lok_ls lv 0 hw) rfl hl1))

theorem gx_iadd {x y : Int32} (B : gx_B G X own cc nL rm lo) (hd : decode cc pc = .ok (.iadd, 1)) (kk : gx_WG G X nL I (pc + 1) lv (.int (x + y) :: st)) : gx_WG G X nL I pc lv (.int y :: .int x :: st) := by
  obtain ⟨p, l, e, R, s, m, args, below, meth, c, Q, A, kk0, nn0⟩ := X
  obtain ⟨⟨hx, hb, hml, hown, hts⟩, hK, hR, hG, hA, hk0, hn0⟩ := B
  intro H locs ls hP hS hl
  exact lv_iadd hx hb hd (kk H locs ls hP hS hl)

theorem gx_isub {x y : Int32} (B : gx_B G X own cc nL rm lo) (hd : decode cc pc = .ok (.isub, 1)) (kk : gx_WG G X nL I (pc + 1) lv (.int (x - y) :: st)) : gx_WG G X nL I pc lv (.int y :: .int x :: st) := by
  obtain ⟨p, l, e, R, s, m, args, below, meth, c, Q, A, kk0, nn0⟩ := X
  obtain ⟨⟨hx, hb, hml, hown, hts⟩, hK, hR, hG, hA, hk0, hn0⟩ := B
  intro H locs ls hP hS hl
  exact lv_isub hx hb hd (kk H locs ls hP hS hl)

theorem gx_imul {x y : Int32} (B : gx_B G X own cc nL rm lo) (hd : decode cc pc = .ok (.imul, 1)) (kk : gx_WG G X nL I (pc + 1) lv (.int (x * y) :: st)) : gx_WG G X nL I pc lv (.int y :: .int x :: st) := by
  obtain ⟨p, l, e, R, s, m, args, below, meth, c, Q, A, kk0, nn0⟩ := X
  obtain ⟨⟨hx, hb, hml, hown, hts⟩, hK, hR, hG, hA, hk0, hn0⟩ := B
  intro H locs ls hP hS hl
  exact lv_imul hx hb hd (kk H locs ls hP hS hl)

theorem gx_iand {x y : Int32} (B : gx_B G X own cc nL rm lo) (hd : decode cc pc = .ok (.iand, 1)) (kk : gx_WG G X nL I (pc + 1) lv (.int (x &&& y) :: st)) : gx_WG G X nL I pc lv (.int y :: .int x :: st) := by
  obtain ⟨p, l, e, R, s, m, args, below, meth, c, Q, A, kk0, nn0⟩ := X
  obtain ⟨⟨hx, hb, hml, hown, hts⟩, hK, hR, hG, hA, hk0, hn0⟩ := B
  intro H locs ls hP hS hl
  exact lv_iand hx hb hd (kk H locs ls hP hS hl)

theorem gx_ior {x y : Int32} (B : gx_B G X own cc nL rm lo) (hd : decode cc pc = .ok (.ior, 1)) (kk : gx_WG G X nL I (pc + 1) lv (.int (x ||| y) :: st)) : gx_WG G X nL I pc lv (.int y :: .int x :: st) := by
  obtain ⟨p, l, e, R, s, m, args, below, meth, c, Q, A, kk0, nn0⟩ := X
  obtain ⟨⟨hx, hb, hml, hown, hts⟩, hK, hR, hG, hA, hk0, hn0⟩ := B
  intro H locs ls hP hS hl
  exact lv_ior hx hb hd (kk H locs ls hP hS hl)

theorem gx_ixor {x y : Int32} (B : gx_B G X own cc nL rm lo) (hd : decode cc pc = .ok (.ixor, 1)) (kk : gx_WG G X nL I (pc + 1) lv (.int (x ^^^ y) :: st)) : gx_WG G X nL I pc lv (.int y :: .int x :: st) := by
  obtain ⟨p, l, e, R, s, m, args, below, meth, c, Q, A, kk0, nn0⟩ := X
  obtain ⟨⟨hx, hb, hml, hown, hts⟩, hK, hR, hG, hA, hk0, hn0⟩ := B
  intro H locs ls hP hS hl
  exact lv_ixor hx hb hd (kk H locs ls hP hS hl)

theorem gx_ishl {x y : Int32} (B : gx_B G X own cc nL rm lo) (hd : decode cc pc = .ok (.ishl, 1)) (kk : gx_WG G X nL I (pc + 1) lv (.int (x <<< (y &&& 31)) :: st)) : gx_WG G X nL I pc lv (.int y :: .int x :: st) := by
  obtain ⟨p, l, e, R, s, m, args, below, meth, c, Q, A, kk0, nn0⟩ := X
  obtain ⟨⟨hx, hb, hml, hown, hts⟩, hK, hR, hG, hA, hk0, hn0⟩ := B
  intro H locs ls hP hS hl
  exact lv_ishl hx hb hd (kk H locs ls hP hS hl)

theorem gx_ishr {x y : Int32} (B : gx_B G X own cc nL rm lo) (hd : decode cc pc = .ok (.ishr, 1)) (kk : gx_WG G X nL I (pc + 1) lv (.int (x >>> (y &&& 31)) :: st)) : gx_WG G X nL I pc lv (.int y :: .int x :: st) := by
  obtain ⟨p, l, e, R, s, m, args, below, meth, c, Q, A, kk0, nn0⟩ := X
  obtain ⟨⟨hx, hb, hml, hown, hts⟩, hK, hR, hG, hA, hk0, hn0⟩ := B
  intro H locs ls hP hS hl
  exact lv_ishr hx hb hd (kk H locs ls hP hS hl)

theorem gx_idiv {x y : Int32} (B : gx_B G X own cc nL rm lo) (hd : decode cc pc = .ok (.idiv, 1)) (hne : ¬ y = 0) (kk : gx_WG G X nL I (pc + 1) lv (.int (x / y) :: st)) : gx_WG G X nL I pc lv (.int y :: .int x :: st) := by
  obtain ⟨p, l, e, R, s, m, args, below, meth, c, Q, A, kk0, nn0⟩ := X
  obtain ⟨⟨hx, hb, hml, hown, hts⟩, hK, hR, hG, hA, hk0, hn0⟩ := B
  intro H locs ls hP hS hl
  exact lv_idiv hx hb hd hne (kk H locs ls hP hS hl)

theorem gx_irem {x y : Int32} (B : gx_B G X own cc nL rm lo) (hd : decode cc pc = .ok (.irem, 1)) (hne : ¬ y = 0) (kk : gx_WG G X nL I (pc + 1) lv (.int (x - x / y * y) :: st)) : gx_WG G X nL I pc lv (.int y :: .int x :: st) := by
  obtain ⟨p, l, e, R, s, m, args, below, meth, c, Q, A, kk0, nn0⟩ := X
  obtain ⟨⟨hx, hb, hml, hown, hts⟩, hK, hR, hG, hA, hk0, hn0⟩ := B
  intro H locs ls hP hS hl
  exact lv_irem hx hb hd hne (kk H locs ls hP hS hl)

theorem gx_iushr {x y : Int32} (B : gx_B G X own cc nL rm lo) (hd : decode cc pc = .ok (.iushr, 1)) (kk : gx_WG G X nL I (pc + 1) lv (.int (x.toUInt32 >>> (y.toUInt32 &&& Int32.toUInt32 31)).toInt32 :: st)) : gx_WG G X nL I pc lv (.int y :: .int x :: st) := by
  obtain ⟨p, l, e, R, s, m, args, below, meth, c, Q, A, kk0, nn0⟩ := X
  obtain ⟨⟨hx, hb, hml, hown, hts⟩, hK, hR, hG, hA, hk0, hn0⟩ := B
  intro H locs ls hP hS hl
  exact lv_iushr hx hb hd rfl (kk H locs ls hP hS hl)

theorem gx_ineg {x : Int32} (B : gx_B G X own cc nL rm lo) (hd : decode cc pc = .ok (.ineg, 1)) (kk : gx_WG G X nL I (pc + 1) lv (.int (-x) :: st)) : gx_WG G X nL I pc lv (.int x :: st) := by
  obtain ⟨p, l, e, R, s, m, args, below, meth, c, Q, A, kk0, nn0⟩ := X
  obtain ⟨⟨hx, hb, hml, hown, hts⟩, hK, hR, hG, hA, hk0, hn0⟩ := B
  intro H locs ls hP hS hl
  exact lv_ineg hx hb hd (kk H locs ls hP hS hl)

theorem gx_dup {va : Value} (B : gx_B G X own cc nL rm lo) (hd : decode cc pc = .ok (.dup, 1)) (hva : va.category = 1) (kk : gx_WG G X nL I (pc + 1) lv (va :: va :: st)) : gx_WG G X nL I pc lv (va :: st) := by
  obtain ⟨p, l, e, R, s, m, args, below, meth, c, Q, A, kk0, nn0⟩ := X
  obtain ⟨⟨hx, hb, hml, hown, hts⟩, hK, hR, hG, hA, hk0, hn0⟩ := B
  intro H locs ls hP hS hl
  exact lv_dup hx hb hd hva (kk H locs ls hP hS hl)

theorem gx_dup2 {va vb : Value} (B : gx_B G X own cc nL rm lo) (hd : decode cc pc = .ok (.dup2, 1)) (hva : va.category = 1) (hvb : vb.category = 1) (kk : gx_WG G X nL I (pc + 1) lv (va :: vb :: va :: vb :: st)) : gx_WG G X nL I pc lv (va :: vb :: st) := by
  obtain ⟨p, l, e, R, s, m, args, below, meth, c, Q, A, kk0, nn0⟩ := X
  obtain ⟨⟨hx, hb, hml, hown, hts⟩, hK, hR, hG, hA, hk0, hn0⟩ := B
  intro H locs ls hP hS hl
  exact lv_dup2_11 hx hb hd hva hvb (kk H locs ls hP hS hl)

theorem gx_goto {off : Int} {tgt : Nat} (B : gx_B G X own cc nL rm lo) (hd : decode cc pc = .ok (.goto off, 3)) (ht : (pc : Int) + off = (tgt : Int)) (kk : gx_WG G X nL I tgt lv st) : gx_WG G X nL I pc lv st := by
  obtain ⟨p, l, e, R, s, m, args, below, meth, c, Q, A, kk0, nn0⟩ := X
  obtain ⟨⟨hx, hb, hml, hown, hts⟩, hK, hR, hG, hA, hk0, hn0⟩ := B
  intro H locs ls hP hS hl
  exact lv_goto hx hb hd ht (kk H locs ls hP hS hl)

-- BRANCHES

theorem gx_if_eq {x : Int32} {off : Int} {tgt : Nat} (B : gx_B G X own cc nL rm lo) (hd : decode cc pc = .ok (.ifCond .eq off, 3)) (ht : (pc : Int) + off = (tgt : Int)) (kt : x = 0 → gx_WG G X nL I tgt lv st) (kf : ¬ x = 0 → gx_WG G X nL I (pc + 3) lv st) : gx_WG G X nL I pc lv (.int x :: st) := by
  obtain ⟨p, l, e, R, s, m, args, below, meth, c, Q, A, kk0, nn0⟩ := X
  obtain ⟨⟨hx, hb, hml, hown, hts⟩, hK, hR, hG, hA, hk0, hn0⟩ := B
  intro H locs ls hP hS hl
  exact lv_if_eq hx hb hd ht (fun h => kt h H locs ls hP hS hl) (fun h => kf h H locs ls hP hS hl)

theorem gx_icmp_eq {x y : Int32} {off : Int} {tgt : Nat} (B : gx_B G X own cc nL rm lo) (hd : decode cc pc = .ok (.if_icmp .eq off, 3)) (ht : (pc : Int) + off = (tgt : Int)) (kt : x = y → gx_WG G X nL I tgt lv st) (kf : ¬ x = y → gx_WG G X nL I (pc + 3) lv st) : gx_WG G X nL I pc lv (.int y :: .int x :: st) := by
  obtain ⟨p, l, e, R, s, m, args, below, meth, c, Q, A, kk0, nn0⟩ := X
  obtain ⟨⟨hx, hb, hml, hown, hts⟩, hK, hR, hG, hA, hk0, hn0⟩ := B
  intro H locs ls hP hS hl
  exact lv_icmp_eq hx hb hd ht (fun h => kt h H locs ls hP hS hl) (fun h => kf h H locs ls hP hS hl)

theorem gx_if_ne {x : Int32} {off : Int} {tgt : Nat} (B : gx_B G X own cc nL rm lo) (hd : decode cc pc = .ok (.ifCond .ne off, 3)) (ht : (pc : Int) + off = (tgt : Int)) (kt : ¬ x = 0 → gx_WG G X nL I tgt lv st) (kf : x = 0 → gx_WG G X nL I (pc + 3) lv st) : gx_WG G X nL I pc lv (.int x :: st) := by
  obtain ⟨p, l, e, R, s, m, args, below, meth, c, Q, A, kk0, nn0⟩ := X
  obtain ⟨⟨hx, hb, hml, hown, hts⟩, hK, hR, hG, hA, hk0, hn0⟩ := B
  intro H locs ls hP hS hl
  exact lv_if_ne hx hb hd ht (fun h => kt h H locs ls hP hS hl) (fun h => kf h H locs ls hP hS hl)

theorem gx_icmp_ne {x y : Int32} {off : Int} {tgt : Nat} (B : gx_B G X own cc nL rm lo) (hd : decode cc pc = .ok (.if_icmp .ne off, 3)) (ht : (pc : Int) + off = (tgt : Int)) (kt : ¬ x = y → gx_WG G X nL I tgt lv st) (kf : x = y → gx_WG G X nL I (pc + 3) lv st) : gx_WG G X nL I pc lv (.int y :: .int x :: st) := by
  obtain ⟨p, l, e, R, s, m, args, below, meth, c, Q, A, kk0, nn0⟩ := X
  obtain ⟨⟨hx, hb, hml, hown, hts⟩, hK, hR, hG, hA, hk0, hn0⟩ := B
  intro H locs ls hP hS hl
  exact lv_icmp_ne hx hb hd ht (fun h => kt h H locs ls hP hS hl) (fun h => kf h H locs ls hP hS hl)

theorem gx_if_lt {x : Int32} {off : Int} {tgt : Nat} (B : gx_B G X own cc nL rm lo) (hd : decode cc pc = .ok (.ifCond .lt off, 3)) (ht : (pc : Int) + off = (tgt : Int)) (kt : x < 0 → gx_WG G X nL I tgt lv st) (kf : ¬ x < 0 → gx_WG G X nL I (pc + 3) lv st) : gx_WG G X nL I pc lv (.int x :: st) := by
  obtain ⟨p, l, e, R, s, m, args, below, meth, c, Q, A, kk0, nn0⟩ := X
  obtain ⟨⟨hx, hb, hml, hown, hts⟩, hK, hR, hG, hA, hk0, hn0⟩ := B
  intro H locs ls hP hS hl
  exact lv_if_lt hx hb hd ht (fun h => kt h H locs ls hP hS hl) (fun h => kf h H locs ls hP hS hl)

theorem gx_icmp_lt {x y : Int32} {off : Int} {tgt : Nat} (B : gx_B G X own cc nL rm lo) (hd : decode cc pc = .ok (.if_icmp .lt off, 3)) (ht : (pc : Int) + off = (tgt : Int)) (kt : x < y → gx_WG G X nL I tgt lv st) (kf : ¬ x < y → gx_WG G X nL I (pc + 3) lv st) : gx_WG G X nL I pc lv (.int y :: .int x :: st) := by
  obtain ⟨p, l, e, R, s, m, args, below, meth, c, Q, A, kk0, nn0⟩ := X
  obtain ⟨⟨hx, hb, hml, hown, hts⟩, hK, hR, hG, hA, hk0, hn0⟩ := B
  intro H locs ls hP hS hl
  exact lv_icmp_lt hx hb hd ht (fun h => kt h H locs ls hP hS hl) (fun h => kf h H locs ls hP hS hl)

theorem gx_if_ge {x : Int32} {off : Int} {tgt : Nat} (B : gx_B G X own cc nL rm lo) (hd : decode cc pc = .ok (.ifCond .ge off, 3)) (ht : (pc : Int) + off = (tgt : Int)) (kt : 0 ≤ x → gx_WG G X nL I tgt lv st) (kf : ¬ 0 ≤ x → gx_WG G X nL I (pc + 3) lv st) : gx_WG G X nL I pc lv (.int x :: st) := by
  obtain ⟨p, l, e, R, s, m, args, below, meth, c, Q, A, kk0, nn0⟩ := X
  obtain ⟨⟨hx, hb, hml, hown, hts⟩, hK, hR, hG, hA, hk0, hn0⟩ := B
  intro H locs ls hP hS hl
  exact lv_if_ge hx hb hd ht (fun h => kt h H locs ls hP hS hl) (fun h => kf h H locs ls hP hS hl)

theorem gx_icmp_ge {x y : Int32} {off : Int} {tgt : Nat} (B : gx_B G X own cc nL rm lo) (hd : decode cc pc = .ok (.if_icmp .ge off, 3)) (ht : (pc : Int) + off = (tgt : Int)) (kt : y ≤ x → gx_WG G X nL I tgt lv st) (kf : ¬ y ≤ x → gx_WG G X nL I (pc + 3) lv st) : gx_WG G X nL I pc lv (.int y :: .int x :: st) := by
  obtain ⟨p, l, e, R, s, m, args, below, meth, c, Q, A, kk0, nn0⟩ := X
  obtain ⟨⟨hx, hb, hml, hown, hts⟩, hK, hR, hG, hA, hk0, hn0⟩ := B
  intro H locs ls hP hS hl
  exact lv_icmp_ge hx hb hd ht (fun h => kt h H locs ls hP hS hl) (fun h => kf h H locs ls hP hS hl)

theorem gx_if_gt {x : Int32} {off : Int} {tgt : Nat} (B : gx_B G X own cc nL rm lo) (hd : decode cc pc = .ok (.ifCond .gt off, 3)) (ht : (pc : Int) + off = (tgt : Int)) (kt : 0 < x → gx_WG G X nL I tgt lv st) (kf : ¬ 0 < x → gx_WG G X nL I (pc + 3) lv st) : gx_WG G X nL I pc lv (.int x :: st) := by
  obtain ⟨p, l, e, R, s, m, args, below, meth, c, Q, A, kk0, nn0⟩ := X
  obtain ⟨⟨hx, hb, hml, hown, hts⟩, hK, hR, hG, hA, hk0, hn0⟩ := B
  intro H locs ls hP hS hl
  exact lv_if_gt hx hb hd ht (fun h => kt h H locs ls hP hS hl) (fun h => kf h H locs ls hP hS hl)

theorem gx_icmp_gt {x y : Int32} {off : Int} {tgt : Nat} (B : gx_B G X own cc nL rm lo) (hd : decode cc pc = .ok (.if_icmp .gt off, 3)) (ht : (pc : Int) + off = (tgt : Int)) (kt : y < x → gx_WG G X nL I tgt lv st) (kf : ¬ y < x → gx_WG G X nL I (pc + 3) lv st) : gx_WG G X nL I pc lv (.int y :: .int x :: st) := by
  obtain ⟨p, l, e, R, s, m, args, below, meth, c, Q, A, kk0, nn0⟩ := X
  obtain ⟨⟨hx, hb, hml, hown, hts⟩, hK, hR, hG, hA, hk0, hn0⟩ := B
  intro H locs ls hP hS hl
  exact lv_icmp_gt hx hb hd ht (fun h => kt h H locs ls hP hS hl) (fun h => kf h H locs ls hP hS hl)

theorem gx_if_le {x : Int32} {off : Int} {tgt : Nat} (B : gx_B G X own cc nL rm lo) (hd : decode cc pc = .ok (.ifCond .le off, 3)) (ht : (pc : Int) + off = (tgt : Int)) (kt : x ≤ 0 → gx_WG G X nL I tgt lv st) (kf : ¬ x ≤ 0 → gx_WG G X nL I (pc + 3) lv st) : gx_WG G X nL I pc lv (.int x :: st) := by
  obtain ⟨p, l, e, R, s, m, args, below, meth, c, Q, A, kk0, nn0⟩ := X
  obtain ⟨⟨hx, hb, hml, hown, hts⟩, hK, hR, hG, hA, hk0, hn0⟩ := B
  intro H locs ls hP hS hl
  exact lv_if_le hx hb hd ht (fun h => kt h H locs ls hP hS hl) (fun h => kf h H locs ls hP hS hl)

theorem gx_icmp_le {x y : Int32} {off : Int} {tgt : Nat} (B : gx_B G X own cc nL rm lo) (hd : decode cc pc = .ok (.if_icmp .le off, 3)) (ht : (pc : Int) + off = (tgt : Int)) (kt : x ≤ y → gx_WG G X nL I tgt lv st) (kf : ¬ x ≤ y → gx_WG G X nL I (pc + 3) lv st) : gx_WG G X nL I pc lv (.int y :: .int x :: st) := by
  obtain ⟨p, l, e, R, s, m, args, below, meth, c, Q, A, kk0, nn0⟩ := X
  obtain ⟨⟨hx, hb, hml, hown, hts⟩, hK, hR, hG, hA, hk0, hn0⟩ := B
  intro H locs ls hP hS hl
  exact lv_icmp_le hx hb hd ht (fun h => kt h H locs ls hP hS hl) (fun h => kf h H locs ls hP hS hl)

theorem gx_swOut {dflt a b : Int} {offs : Array Int} {len : Nat} {x : Int32} {tgt : Nat} (B : gx_B G X own cc nL rm lo) (hd : decode cc pc = .ok (.tableswitch dflt a b offs, len)) (h : x.toInt < a ∨ b < x.toInt) (ht : (pc : Int) + dflt = (tgt : Int)) (kk : gx_WG G X nL I tgt lv st) : gx_WG G X nL I pc lv (.int x :: st) := by
  obtain ⟨p, l, e, R, s, m, args, below, meth, c, Q, A, kk0, nn0⟩ := X
  obtain ⟨⟨hx, hb, hml, hown, hts⟩, hK, hR, hG, hA, hk0, hn0⟩ := B
  intro H locs ls hP hS hl
  exact lv_tableOut hx hb hd h ht (kk H locs ls hP hS hl)

theorem gx_swIn {dflt a b : Int} {offs : Array Int} {len : Nat} {x : Int32} {off : Int} {tgt : Nat} (B : gx_B G X own cc nL rm lo) (hd : decode cc pc = .ok (.tableswitch dflt a b offs, len)) (h1 : ¬ x.toInt < a) (h2 : ¬ b < x.toInt) (ho : offs[(x.toInt - a).toNat]? = some off) (ht : (pc : Int) + off = (tgt : Int)) (kk : gx_WG G X nL I tgt lv st) : gx_WG G X nL I pc lv (.int x :: st) := by
  obtain ⟨p, l, e, R, s, m, args, below, meth, c, Q, A, kk0, nn0⟩ := X
  obtain ⟨⟨hx, hb, hml, hown, hts⟩, hK, hR, hG, hA, hk0, hn0⟩ := B
  intro H locs ls hP hS hl
  exact lv_tableIn hx hb hd h1 h2 ho ht (kk H locs ls hP hS hl)


/-- a field's link: of class number ci, place k -/
def gx_FL (own : String) (idx ci k : Nat) : Prop := ∃ (C : String) (T : u_T) (N : Nat) (ty : Nat → FieldType), gx_cl[ci]? = some (C, T, N) ∧ ci < 10 ∧ k < N ∧ (∀ w ∈ u_ws C T N, w ∈ gtbl) ∧ Cond.fieldLink own idx (T k).1 (T k).2.1 (T k).2.2.1 ∈ gtbl ∧ (∀ k, k < N → parseFieldDescriptor (T k).2.2.1 = some (ty k)) ∧ (∀ a, a < N → ∀ b, b < N → a ≠ b → (T a).2.1 ≠ (T b).2.1)
/-- the same, for writing an int or a boolean -/
def gx_FW (own : String) (idx ci k : Nat) (tw : FieldType) : Prop := ∃ (C : String) (T : u_T) (N : Nat) (ty : Nat → FieldType), gx_cl[ci]? = some (C, T, N) ∧ ci < 10 ∧ k < N ∧ (∀ w ∈ u_ws C T N, w ∈ gtbl) ∧ Cond.fieldLink own idx (T k).1 (T k).2.1 (T k).2.2.1 ∈ gtbl ∧ (∀ k, k < N → parseFieldDescriptor (T k).2.2.1 = some (ty k)) ∧ (∀ a, a < N → ∀ b, b < N → a ≠ b → (T a).2.1 ≠ (T b).2.1) ∧ (T k).2.2.2 = false ∧ parseFieldDescriptor (T k).2.2.1 = some tw
def gx_cn (ci : Nat) : Nat := match ci with
  | 0 => 6
  | 1 => 3
  | 2 => 10
  | 3 => 9
  | 4 => 5
  | 5 => 6
  | _ => 18
theorem gx_cn_ok {ci : Nat} {q : vw_C} (h : gx_cl[ci]? = some q) : gx_cn ci = q.2.2 := by
  match ci, h with
  | 0, h => cases h; rfl
  | 1, h => cases h; rfl
  | 2, h => cases h; rfl
  | 3, h => cases h; rfl
  | 4, h => cases h; rfl
  | 5, h => cases h; rfl
  | 6, h => cases h; rfl
  | n + 7, h => simp [gx_cl] at h

theorem gx_geti {idx ci k a : Nat} (B : gx_B G X own cc nL rm lo) (F : gx_FL own idx ci k) (hk : gx_k a = (ci, gx_cn ci)) (ha : a < lo) (hr : gx_r a k = 0) (hd : decode cc pc = .ok (.getfield idx, 3)) (kk : gx_WG G X nL I (pc + 3) lv (.int (I a k) :: st)) : gx_WG G X nL I pc lv (.ref (gx_ad G a) :: st) := by
  obtain ⟨p, l, e, R, s, m, args, below, meth, c, Q, A, kk0, nn0⟩ := X
  obtain ⟨⟨hx, hb, hml, hown, hts⟩, hK, hR, hG, hA, hk0, hn0⟩ := B
  intro H locs ls hP hS hl
  obtain ⟨C, T, N, ty, h1, h2, h3, h4, h5, h6, h7⟩ := F
  rw [gx_cn_ok h1] at hk
  have he : (gx_w G I)[a]? = some (gx_ad G a, .inr (ci, (List.range N).map (gx_val G I a))) := by rw [gx_w_get (Nat.lt_of_lt_of_le ha hG.2), gx_e_obj hk h2]
  exact va_get hx hb hts h4 hown hK.1 hP a he h1 k h3 (hts _ h5) (fun _ h => h) (v := .int (I a k)) (by simp [h3, gx_val, hr]) hd (kk H locs ls hP hS hl)

theorem gx_getr {idx ci k a t : Nat} (B : gx_B G X own cc nL rm lo) (F : gx_FL own idx ci k) (hk : gx_k a = (ci, gx_cn ci)) (ha : a < lo) (hr : gx_r a k = t + 1) (hd : decode cc pc = .ok (.getfield idx, 3)) (kk : gx_WG G X nL I (pc + 3) lv (.ref (gx_ad G t) :: st)) : gx_WG G X nL I pc lv (.ref (gx_ad G a) :: st) := by
  obtain ⟨p, l, e, R, s, m, args, below, meth, c, Q, A, kk0, nn0⟩ := X
  obtain ⟨⟨hx, hb, hml, hown, hts⟩, hK, hR, hG, hA, hk0, hn0⟩ := B
  intro H locs ls hP hS hl
  obtain ⟨C, T, N, ty, h1, h2, h3, h4, h5, h6, h7⟩ := F
  rw [gx_cn_ok h1] at hk
  have he : (gx_w G I)[a]? = some (gx_ad G a, .inr (ci, (List.range N).map (gx_val G I a))) := by rw [gx_w_get (Nat.lt_of_lt_of_le ha hG.2), gx_e_obj hk h2]
  exact va_get hx hb hts h4 hown hK.1 hP a he h1 k h3 (hts _ h5) (fun _ h => h) (v := .ref (gx_ad G t)) (by simp [h3, gx_val, hr]) hd (kk H locs ls hP hS hl)

theorem gx_puti {idx ci k a : Nat} {x : Int32} (B : gx_B G X own cc nL rm lo) (F : gx_FW own idx ci k .int) (hk : gx_k a = (ci, gx_cn ci)) (ha : a < lo) (hr : gx_r a k = 0) (hd : decode cc pc = .ok (.putfield idx, 3)) (kk : ∀ I1 : gx_I, I1 = gx_up I a k x → gx_WG G X nL I1 (pc + 3) lv st) : gx_WG G X nL I pc lv (.int x :: .ref (gx_ad G a) :: st) := by
  obtain ⟨p, l, e, R, s, m, args, below, meth, c, Q, A, kk0, nn0⟩ := X
  obtain ⟨⟨hx, hb, hml, hown, hts⟩, hK, hR, hG, hA, hk0, hn0⟩ := B
  intro H locs ls hP hS hl
  obtain ⟨C, T, N, ty, h1, h2, h3, h4, h5, h6, h7, h8, h9⟩ := F
  rw [gx_cn_ok h1] at hk
  have he : (gx_w G I)[a]? = some (gx_ad G a, .inr (ci, (List.range N).map (gx_val G I a))) := by rw [gx_w_get (Nat.lt_of_lt_of_le ha hG.2), gx_e_obj hk h2]
  refine va_put hx hb hts h4 ty h6 h7 hown hK.1 hP (gx_D hG I hA) hS a he h1 k h3 (hts _ h5) (fun _ h => h) h8 h9 rfl rfl (by simpa using h3) hd (fun H1 locs1 hP1 hD1 hS1 => kk _ rfl H1 locs1 ls ?_ hS1 hl)
  rw [gx_set_obj hk h2 h3 hr] at hP1
  exact hP1

theorem gx_putz {idx ci k a : Nat} {x : Int32} (B : gx_B G X own cc nL rm lo) (F : gx_FW own idx ci k .boolean) (hk : gx_k a = (ci, gx_cn ci)) (ha : a < lo) (hr : gx_r a k = 0) (hx0 : x = 0 ∨ x = 1) (hd : decode cc pc = .ok (.putfield idx, 3)) (kk : ∀ I1 : gx_I, I1 = gx_up I a k x → gx_WG G X nL I1 (pc + 3) lv st) : gx_WG G X nL I pc lv (.int x :: .ref (gx_ad G a) :: st) := by
  obtain ⟨p, l, e, R, s, m, args, below, meth, c, Q, A, kk0, nn0⟩ := X
  obtain ⟨⟨hx, hb, hml, hown, hts⟩, hK, hR, hG, hA, hk0, hn0⟩ := B
  intro H locs ls hP hS hl
  obtain ⟨C, T, N, ty, h1, h2, h3, h4, h5, h6, h7, h8, h9⟩ := F
  rw [gx_cn_ok h1] at hk
  have he : (gx_w G I)[a]? = some (gx_ad G a, .inr (ci, (List.range N).map (gx_val G I a))) := by rw [gx_w_get (Nat.lt_of_lt_of_le ha hG.2), gx_e_obj hk h2]
  refine va_put hx hb hts h4 ty h6 h7 hown hK.1 hP (gx_D hG I hA) hS a he h1 k h3 (hts _ h5) (fun _ h => h) h8 h9 (by rcases hx0 with rfl | rfl <;> decide) (by rcases hx0 with rfl | rfl <;> decide) (by simpa using h3) hd (fun H1 locs1 hP1 hD1 hS1 => kk _ rfl H1 locs1 ls ?_ hS1 hl)
  rw [gx_set_obj hk h2 h3 hr] at hP1
  exact hP1

theorem gx_iald {a n : Nat} {i : Int32} (B : gx_B G X own cc nL rm lo) (hk : gx_k a = (10, n)) (ha : a < lo) (hi : vp_in i n) (hd : decode cc pc = .ok (.iaload, 1)) (kk : gx_WG G X nL I (pc + 1) lv (.int (I a i.toNatClampNeg) :: st)) : gx_WG G X nL I pc lv (.int i :: .ref (gx_ad G a) :: st) := by
  obtain ⟨p, l, e, R, s, m, args, below, meth, c, Q, A, kk0, nn0⟩ := X
  obtain ⟨⟨hx, hb, hml, hown, hts⟩, hK, hR, hG, hA, hk0, hn0⟩ := B
  intro H locs ls hP hS hl
  exact va_iald hx hb hK.1 hP a 0 (by rw [gx_w_get (Nat.lt_of_lt_of_le ha hG.2), gx_e_arr hk]) rfl hi hd (kk H locs ls hP hS hl)

theorem gx_iast {a n : Nat} {i x : Int32} (B : gx_B G X own cc nL rm lo) (hk : gx_k a = (10, n)) (ha : a < lo) (hi : vp_in i n) (hd : decode cc pc = .ok (.iastore, 1)) (kk : ∀ I1 : gx_I, I1 = gx_up I a i.toNatClampNeg x → gx_WG G X nL I1 (pc + 1) lv st) : gx_WG G X nL I pc lv (.int x :: .int i :: .ref (gx_ad G a) :: st) := by
  obtain ⟨p, l, e, R, s, m, args, below, meth, c, Q, A, kk0, nn0⟩ := X
  obtain ⟨⟨hx, hb, hml, hown, hts⟩, hK, hR, hG, hA, hk0, hn0⟩ := B
  intro H locs ls hP hS hl
  refine va_iast hx hb hK.1 hP (gx_D hG I hA) hS a 0 (by rw [gx_w_get (Nat.lt_of_lt_of_le ha hG.2), gx_e_arr hk]) rfl hi hd (fun H1 locs1 hP1 hD1 hS1 => kk _ rfl H1 locs1 ls ?_ hS1 hl)
  rw [gx_set_arr hk] at hP1
  exact hP1

theorem gx_aald {a n t : Nat} {i : Int32} (B : gx_B G X own cc nL rm lo) (hk : gx_k a = (11, n)) (ha : a < lo) (hi : vp_in i n) (hr : gx_r a i.toNatClampNeg = t + 1) (hd : decode cc pc = .ok (.aaload, 1)) (kk : gx_WG G X nL I (pc + 1) lv (.ref (gx_ad G t) :: st)) : gx_WG G X nL I pc lv (.int i :: .ref (gx_ad G a) :: st) := by
  obtain ⟨p, l, e, R, s, m, args, below, meth, c, Q, A, kk0, nn0⟩ := X
  obtain ⟨⟨hx, hb, hml, hown, hts⟩, hK, hR, hG, hA, hk0, hn0⟩ := B
  intro H locs ls hP hS hl
  have he : (gx_w G I)[a]? = some (gx_ad G a, .inl (G.2.2.1.2.1, n, .inr (.inr (.inr (.inr (fun i => some (gx_ad G (gx_r a i - 1)))))))) := by rw [gx_w_get (Nat.lt_of_lt_of_le ha hG.2)]; simp [gx_e, hk]
  refine va_aldq hx hb hK.1 hP a 1 he rfl hi hd ?_
  rw [hr]
  exact kk H locs ls hP hS hl

theorem gx_aald2 {a n t : Nat} {i : Int32} (B : gx_B G X own cc nL rm lo) (hk : gx_k a = (12, n)) (ha : a < lo) (hi : vp_in i n) (hr : gx_r a i.toNatClampNeg = t + 1) (hd : decode cc pc = .ok (.aaload, 1)) (kk : gx_WG G X nL I (pc + 1) lv (.ref (gx_ad G t) :: st)) : gx_WG G X nL I pc lv (.int i :: .ref (gx_ad G a) :: st) := by
  obtain ⟨p, l, e, R, s, m, args, below, meth, c, Q, A, kk0, nn0⟩ := X
  obtain ⟨⟨hx, hb, hml, hown, hts⟩, hK, hR, hG, hA, hk0, hn0⟩ := B
  intro H locs ls hP hS hl
  have he : (gx_w G I)[a]? = some (gx_ad G a, .inl (G.2.2.1.2.2, n, .inr (.inr (.inr (.inr (fun i => some (gx_ad G (gx_r a i - 1)))))))) := by rw [gx_w_get (Nat.lt_of_lt_of_le ha hG.2)]; simp [gx_e, hk]
  have hlt : i.toNatClampNeg < n := Nat.not_le.mp fun q => hi (Or.inr q)
  refine W.aald (v := .ref (gx_ad G t)) (ty := .array .int) hx hb (hP a _ he) ((hK.1.2 2 _ rfl).1 n (fun j => va_rf (some (gx_ad G (gx_r a j - 1))))) rfl (fun q => by cases q) (by show ¬ (i < 0 ∨ (arrV _ _ _).slots.size ≤ _); rw [arrV_size]; exact hi) (by show (arrV _ _ _).slots[_]? = _; rw [arrV_read _ _ hlt]; show some (va_rf (some (gx_ad G (gx_r a i.toNatClampNeg - 1)))) = _; rw [hr]; rfl) rfl rfl hd (kk H locs ls hP hS hl)

theorem gx_getRow  (B : gx_B G X own cc nL rm lo) (ho : own = RX1) (hd : decode cc pc = .ok (.getstatic 22, 3)) (kk : gx_WG G X nL I (pc + 3) lv (.ref G.2.2.2.1.1 :: st)) : gx_WG G X nL I pc lv st := by
  obtain ⟨p, l, e, R, s, m, args, below, meth, c, Q, A, kk0, nn0⟩ := X
  obtain ⟨⟨hx, hb, hml, hown, hts⟩, hK, hR, hG, hA, hk0, hn0⟩ := B
  intro H locs ls hP hS hl
  subst ho
  exact va_getsN hx hb hK.2.1.1 hS hown (va_Nw.use rfl hK.2.2.2.1) (fun _ h => h) hd (kk H locs ls hP hS hl)

theorem gx_getTurn  (B : gx_B G X own cc nL rm lo) (ho : own = RX0) (hd : decode cc pc = .ok (.getstatic 82, 3)) (kk : gx_WG G X nL I (pc + 3) lv (.ref G.2.2.2.1.2 :: st)) : gx_WG G X nL I pc lv st := by
  obtain ⟨p, l, e, R, s, m, args, below, meth, c, Q, A, kk0, nn0⟩ := X
  obtain ⟨⟨hx, hb, hml, hown, hts⟩, hK, hR, hG, hA, hk0, hn0⟩ := B
  intro H locs ls hP hS hl
  subst ho
  exact va_getsN hx hb hK.2.2.1.1 hS hown (va_Nw.use rfl hK.2.2.2.2.1) (fun _ h => h) hd (kk H locs ls hP hS hl)

theorem gx_rowAt {i : Int32} (B : gx_B G X own cc nL rm lo) (hi : vp_in i 6) (hd : decode cc pc = .ok (.iaload, 1)) (kk : gx_WG G X nL I (pc + 1) lv (.int (gx_rowN i.toNatClampNeg) :: st)) : gx_WG G X nL I pc lv (.int i :: .ref G.2.2.2.1.1 :: st) := by
  obtain ⟨p, l, e, R, s, m, args, below, meth, c, Q, A, kk0, nn0⟩ := X
  obtain ⟨⟨hx, hb, hml, hown, hts⟩, hK, hR, hG, hA, hk0, hn0⟩ := B
  intro H locs ls hP hS hl
  exact va_ti hx hb hK.2.1.2 hS hi rfl hd (kk H locs ls hP hS hl)

theorem gx_turnAt {i : Int32} (B : gx_B G X own cc nL rm lo) (hi : vp_in i 4) (hd : decode cc pc = .ok (.iaload, 1)) (kk : gx_WG G X nL I (pc + 1) lv (.int (gx_turnN i.toNatClampNeg) :: st)) : gx_WG G X nL I pc lv (.int i :: .ref G.2.2.2.1.2 :: st) := by
  obtain ⟨p, l, e, R, s, m, args, below, meth, c, Q, A, kk0, nn0⟩ := X
  obtain ⟨⟨hx, hb, hml, hown, hts⟩, hK, hR, hG, hA, hk0, hn0⟩ := B
  intro H locs ls hP hS hl
  exact va_ti hx hb hK.2.2.1.2 hS hi rfl hd (kk H locs ls hP hS hl)

theorem gx_mmax {idx : Nat} {x y : Int32} (B : gx_B G X own cc nL rm lo) (h1 : Cond.methodLink own idx Lib.Math.max.name ∈ gtbl) (h2 : Cond.static Lib.Math.max.name ∈ gtbl) (h3 : Cond.initialized "java/lang/Math" ∈ gtbl) (h4 : Cond.code Lib.Math.max.name Lib.Math.max.code 2 (some .int) ∈ gtbl) (hf : 1 ≤ rm.frames) (hlo : (st.map fun v => v.category).sum + 13 ≤ rm.locals) (hd : decode cc pc = .ok (.invokestatic idx, 3)) (kk : gx_WG G X nL I (pc + 3) lv (.int (if x < y then y else x) :: st)) : gx_WG G X nL I pc lv (.int y :: .int x :: st) := by
  obtain ⟨p, l, e, R, s, m, args, below, meth, c, Q, A, kk0, nn0⟩ := X
  obtain ⟨⟨hx, hb, hml, hown, hts⟩, hK, hR, hG, hA, hk0, hn0⟩ := B
  intro H locs ls hP hS hl
  subst hR
  exact va_mmax hx hb (hml.trans hl.1.symm) hown (hts _ h1) (hts _ h2) (hts _ h3) (hts _ h4) hf hlo hk0 hn0 hd (kk H locs ls hP hS hl)

theorem gx_mmin {idx : Nat} {x y : Int32} (B : gx_B G X own cc nL rm lo) (h1 : Cond.methodLink own idx Lib.Math.min.name ∈ gtbl) (h2 : Cond.static Lib.Math.min.name ∈ gtbl) (h3 : Cond.initialized "java/lang/Math" ∈ gtbl) (h4 : Cond.code Lib.Math.min.name Lib.Math.min.code 2 (some .int) ∈ gtbl) (hf : 1 ≤ rm.frames) (hlo : (st.map fun v => v.category).sum + 13 ≤ rm.locals) (hd : decode cc pc = .ok (.invokestatic idx, 3)) (kk : gx_WG G X nL I (pc + 3) lv (.int (if y < x then y else x) :: st)) : gx_WG G X nL I pc lv (.int y :: .int x :: st) := by
  obtain ⟨p, l, e, R, s, m, args, below, meth, c, Q, A, kk0, nn0⟩ := X
  obtain ⟨⟨hx, hb, hml, hown, hts⟩, hK, hR, hG, hA, hk0, hn0⟩ := B
  intro H locs ls hP hS hl
  subst hR
  exact va_mmin hx hb (hml.trans hl.1.symm) hown (hts _ h1) (hts _ h2) (hts _ h3) (hts _ h4) hf hlo hk0 hn0 hd (kk H locs ls hP hS hl)

theorem gx_mabs {idx : Nat} {x : Int32} (B : gx_B G X own cc nL rm lo) (h1 : Cond.methodLink own idx Lib.Math.abs.name ∈ gtbl) (h2 : Cond.static Lib.Math.abs.name ∈ gtbl) (h3 : Cond.initialized "java/lang/Math" ∈ gtbl) (h4 : Cond.code Lib.Math.abs.name Lib.Math.abs.code 1 (some .int) ∈ gtbl) (hf : 1 ≤ rm.frames) (hlo : (st.map fun v => v.category).sum + 13 ≤ rm.locals) (hd : decode cc pc = .ok (.invokestatic idx, 3)) (kk : gx_WG G X nL I (pc + 3) lv (.int (if 0 ≤ x then x else 0 - x) :: st)) : gx_WG G X nL I pc lv (.int x :: st) := by
  obtain ⟨p, l, e, R, s, m, args, below, meth, c, Q, A, kk0, nn0⟩ := X
  obtain ⟨⟨hx, hb, hml, hown, hts⟩, hK, hR, hG, hA, hk0, hn0⟩ := B
  intro H locs ls hP hS hl
  subst hR
  exact va_mabs hx hb (hml.trans hl.1.symm) hown (hts _ h1) (hts _ h2) (hts _ h3) (hts _ h4) hf hlo hk0 hn0 hd (kk H locs ls hP hS hl)


theorem gx_ireti {post : Int32 → gx_I → Prop} {v : Int32} (B : gx_B G X own cc nL rm lo) (Rt : gx_Ri G X .int post) (hd : decode cc pc = .ok (.ireturn, 1)) (hp : post v I) : gx_WG G X nL I pc lv [.int v] := by
  obtain ⟨p, l, e, R, s, m, args, below, meth, c, Q, A, kk0, nn0⟩ := X
  obtain ⟨⟨hx, hb, hml, hown, hts⟩, hK, hR, hG, hA, hk0, hn0⟩ := B
  intro H locs ls hP hS hl
  obtain ⟨hr, hlocks, hAe, hQ⟩ := Rt
  subst hAe
  subst hQ
  exact W.iret hx hb hr (fun t ht hW => ⟨⟨v, I, rfl, hp, by show gx_P G I t.heap; rw [ht]; exact hP⟩, va_S.F hS ht⟩) hS.2.2 hd hlocks
theorem gx_iretz {post : Int32 → gx_I → Prop} {v : Int32} (B : gx_B G X own cc nL rm lo) (Rt : gx_Ri G X .boolean post) (hd : decode cc pc = .ok (.ireturn, 1)) (hv : v = 0 ∨ v = 1) (hp : post v I) : gx_WG G X nL I pc lv [.int v] := by
  obtain ⟨p, l, e, R, s, m, args, below, meth, c, Q, A, kk0, nn0⟩ := X
  obtain ⟨⟨hx, hb, hml, hown, hts⟩, hK, hR, hG, hA, hk0, hn0⟩ := B
  intro H locs ls hP hS hl
  obtain ⟨hr, hlocks, hAe, hQ⟩ := Rt
  subst hAe
  subst hQ
  exact W.zret (ty := .boolean) hx hb hr (by rcases hv with rfl | rfl <;> decide) (fun t ht hW => ⟨⟨v, I, rfl, hp, by show gx_P G I t.heap; rw [ht]; exact hP⟩, va_S.F hS ht⟩) hS.2.2 hd hlocks
theorem gx_ret {post : gx_I → Prop} (B : gx_B G X own cc nL rm lo) (Rt : gx_Rv G X post) (hd : decode cc pc = .ok (.return_, 1)) (hp : post I) : gx_WG G X nL I pc lv [] := by
  obtain ⟨p, l, e, R, s, m, args, below, meth, c, Q, A, kk0, nn0⟩ := X
  obtain ⟨⟨hx, hb, hml, hown, hts⟩, hK, hR, hG, hA, hk0, hn0⟩ := B
  intro H locs ls hP hS hl
  obtain ⟨hr, hlocks, hAe, hQ⟩ := Rt
  subst hAe
  subst hQ
  exact W.vret hx hb hr (fun t ht hW => ⟨⟨I, rfl, hp, by show gx_P G I t.heap; rw [ht]; exact hP⟩, va_S.F hS ht⟩) hS.2.2 hd hlocks
/-- a virtual call's link -/
def gx_LV (own : String) (idx ci : Nat) (y : MethodName) (cb : ByteArray) (nb : Nat) (ret : Option FieldType) (n : Nat) : Prop :=
  (∃ (T : u_T) (N : Nat), gx_cl[ci]? = some (y.cls, T, N)) ∧ ci < 10 ∧ (Cond.methodLink own idx y ∈ gtbl ∧ Cond.instanceMethod y ∈ gtbl ∧ Cond.selects y.cls y y ∈ gtbl ∧ Cond.initialized y.cls ∈ gtbl ∧ Cond.code y cb nb ret ∈ gtbl) ∧ (y.cls ≠ "java/lang/invoke/MethodHandle" ∧ y.cls ≠ "java/lang/invoke/VarHandle" ∧ (parseMethodDescriptor y.desc).map (fun d => d.parameters.length) = some n)
def gx_LS (own : String) (idx : Nat) (y : MethodName) (cb : ByteArray) (nb : Nat) (ret : Option FieldType) (n : Nat) : Prop :=
  (Cond.methodLink own idx y ∈ gtbl ∧ Cond.static y ∈ gtbl ∧ Cond.initialized y.cls ∈ gtbl ∧ Cond.code y cb nb ret ∈ gtbl) ∧ (y.cls ≠ "java/lang/invoke/MethodHandle" ∧ y.cls ≠ "java/lang/invoke/VarHandle" ∧ (parseMethodDescriptor y.desc).map (fun d => d.parameters.length) = some n)
theorem gx_good_app {c : Cond} : ∀ (l : List Cond), (∀ w ∈ l, w ∈ gtbl) → c ∈ gtbl → GoodIn gtbl (l ++ (c :: gtbl)) := fun l h hc w hw => by
  have hg : w ∈ gtbl := by
    rcases List.mem_append.mp hw with h1 | h1
    · exact h w h1
    · rcases List.mem_cons.mp h1 with e | h2
      · rw [e]; exact hc
      · exact h2
  exact ⟨hg, good_of_word (List.mem_filter.mp hg).2⟩

theorem gx_callVi {idx ci a n nb : Nat} {y : MethodName} {cb : ByteArray} {rmc : Room} {st0 : List Value} {rt : FieldType} {post : Int32 → gx_I → Prop} (As : List Value) (B : gx_B G X own cc nL rm lo) (L : gx_LV own idx ci y cb nb (some rt) n) (hM : gx_Mi (gx_la X) G y cb nb rt rmc (.ref (gx_ad G a) :: As) I post) (hk : gx_k a = (ci, gx_cn ci)) (ha : a < lo) (hn : As.length = n) (hst : st0 = As.reverse ++ .ref (gx_ad G a) :: st) (hsum : (st.map fun v => v.category).sum ≤ 8) (hf : rmc.frames + 1 ≤ rm.frames ∧ 8 + (nb + 11) + rmc.locals ≤ rm.locals) (hc0 : rmc.cells = 0 ∧ rmc.slots = 0) (hd : decode cc pc = .ok (.invokevirtual idx, 3)) (kk : ∀ (r : Int32) (I1 : gx_I), post r I1 → gx_WG G X nL I1 (pc + 3) lv (.int r :: st)) : gx_WG G X nL I pc lv st0 := by
  obtain ⟨p, l, e, R, s, m, args, below, meth, c, Q, A, kk0, nn0⟩ := X
  obtain ⟨⟨hx, hb, hml, hown, hts⟩, hK, hR, hG, hA, hk0, hn0⟩ := B
  intro H locs ls hP hS hl
  subst hR
  subst hst
  obtain ⟨⟨T, N, h1⟩, h2, ⟨w1, w2, w3, w4, w5⟩, hd3⟩ := L
  have hk' := hk
  rw [gx_cn_ok h1] at hk'
  have he : (gx_w G I)[a]? = some (gx_ad G a, .inr (ci, (List.range N).map (gx_val G I a))) := by rw [gx_w_get (Nat.lt_of_lt_of_le ha hG.2), gx_e_obj hk' h2]
  have hg : GoodIn gtbl (wsV own idx y.cls y (.code y cb nb (some rt) :: gtbl)) := gx_good_app [.methodLink own idx y, .instanceMethod y, .selects y.cls y y, .initialized y.cls] (fun w hw => by simp only [List.mem_cons, List.not_mem_nil, or_false] at hw; rcases hw with rfl | rfl | rfl | rfl <;> assumption) w5
  refine va_calli (va_runV (As := As) (rest := st) ⟨hx, hb, hml, hown, hts⟩ hM (cwV n hts hg rfl hc0.1 hc0.2 ⟨rfl, hd3⟩ hf) ⟨fun a' U g mk q => ⟨q.1, q.2.1, gx_K_frame q.2.2⟩, va_recv hK.1 hP h1 he, fun U hU hW => ⟨rfl, by rw [hU]; exact hP, gx_K_to hK hA hS hU hW⟩⟩ rfl hn hl.1 rfl (lv_room hsum) hd ⟨hk0, hn0⟩) hS (fun q _ h => hA q h) hA (fun r u t H1 locs1 ht hvm hw hB hz1 hk1 hS1 => kk r u hw H1 locs1 ls (ht ▸ hB) hS1 hl)

theorem gx_callSi {idx n nb : Nat} {y : MethodName} {cb : ByteArray} {rmc : Room} {st0 : List Value} {rt : FieldType} {post : Int32 → gx_I → Prop} (As : List Value) (B : gx_B G X own cc nL rm lo) (L : gx_LS own idx y cb nb (some rt) n) (hM : gx_Mi (gx_la X) G y cb nb rt rmc As I post) (hn : As.length = n) (hst : st0 = As.reverse ++ st) (hsum : (st.map fun v => v.category).sum ≤ 8) (hf : rmc.frames + 1 ≤ rm.frames ∧ 8 + (nb + 11) + rmc.locals ≤ rm.locals) (hc0 : rmc.cells = 0 ∧ rmc.slots = 0) (hd : decode cc pc = .ok (.invokestatic idx, 3)) (kk : ∀ (r : Int32) (I1 : gx_I), post r I1 → gx_WG G X nL I1 (pc + 3) lv (.int r :: st)) : gx_WG G X nL I pc lv st0 := by
  obtain ⟨p, l, e, R, s, m, args, below, meth, c, Q, A, kk0, nn0⟩ := X
  obtain ⟨⟨hx, hb, hml, hown, hts⟩, hK, hR, hG, hA, hk0, hn0⟩ := B
  intro H locs ls hP hS hl
  subst hR
  subst hst
  obtain ⟨⟨w1, w2, w3, w4⟩, hd3⟩ := L
  have hg : GoodIn gtbl (va_wsS own idx y (.code y cb nb (some rt) :: gtbl)) := gx_good_app [.methodLink own idx y, .static y, .initialized y.cls] (fun w hw => by simp only [List.mem_cons, List.not_mem_nil, or_false] at hw; rcases hw with rfl | rfl | rfl <;> assumption) w4
  refine va_calli (va_runS (As := As) (rest := st) ⟨hx, hb, hml, hown, hts⟩ hM (va_cwS n hts hg rfl hc0.1 hc0.2 hd3 hf) ⟨fun a' U g mk q => ⟨q.1, q.2.1, gx_K_frame q.2.2⟩, fun U hU hW => ⟨rfl, by rw [hU]; exact hP, gx_K_to hK hA hS hU hW⟩⟩ rfl hn hl.1 rfl (lv_room hsum) hd ⟨hk0, hn0⟩) hS (fun q _ h => hA q h) hA (fun r u t H1 locs1 ht hvm hw hB hz1 hk1 hS1 => kk r u hw H1 locs1 ls (ht ▸ hB) hS1 hl)

theorem gx_callVv {idx ci a n nb : Nat} {y : MethodName} {cb : ByteArray} {rmc : Room} {st0 : List Value} {post : gx_I → Prop} (As : List Value) (B : gx_B G X own cc nL rm lo) (L : gx_LV own idx ci y cb nb (none) n) (hM : gx_Mv (gx_la X) G y cb nb rmc (.ref (gx_ad G a) :: As) I post) (hk : gx_k a = (ci, gx_cn ci)) (ha : a < lo) (hn : As.length = n) (hst : st0 = As.reverse ++ .ref (gx_ad G a) :: st) (hsum : (st.map fun v => v.category).sum ≤ 8) (hf : rmc.frames + 1 ≤ rm.frames ∧ 8 + (nb + 11) + rmc.locals ≤ rm.locals) (hc0 : rmc.cells = 0 ∧ rmc.slots = 0) (hd : decode cc pc = .ok (.invokevirtual idx, 3)) (kk : ∀ (I1 : gx_I), post I1 → gx_WG G X nL I1 (pc + 3) lv st) : gx_WG G X nL I pc lv st0 := by
  obtain ⟨p, l, e, R, s, m, args, below, meth, c, Q, A, kk0, nn0⟩ := X
  obtain ⟨⟨hx, hb, hml, hown, hts⟩, hK, hR, hG, hA, hk0, hn0⟩ := B
  intro H locs ls hP hS hl
  subst hR
  subst hst
  obtain ⟨⟨T, N, h1⟩, h2, ⟨w1, w2, w3, w4, w5⟩, hd3⟩ := L
  have hk' := hk
  rw [gx_cn_ok h1] at hk'
  have he : (gx_w G I)[a]? = some (gx_ad G a, .inr (ci, (List.range N).map (gx_val G I a))) := by rw [gx_w_get (Nat.lt_of_lt_of_le ha hG.2), gx_e_obj hk' h2]
  have hg : GoodIn gtbl (wsV own idx y.cls y (.code y cb nb (none) :: gtbl)) := gx_good_app [.methodLink own idx y, .instanceMethod y, .selects y.cls y y, .initialized y.cls] (fun w hw => by simp only [List.mem_cons, List.not_mem_nil, or_false] at hw; rcases hw with rfl | rfl | rfl | rfl <;> assumption) w5
  refine va_callv (va_runV (As := As) (rest := st) ⟨hx, hb, hml, hown, hts⟩ hM (cwV n hts hg rfl hc0.1 hc0.2 ⟨rfl, hd3⟩ hf) ⟨fun a' U g mk q => ⟨q.1, q.2.1, gx_K_frame q.2.2⟩, va_recv hK.1 hP h1 he, fun U hU hW => ⟨rfl, by rw [hU]; exact hP, gx_K_to hK hA hS hU hW⟩⟩ rfl hn hl.1 rfl (lv_room hsum) hd ⟨hk0, hn0⟩) hS (fun q _ h => hA q h) hA (fun u t H1 locs1 ht hvm hw hB hz1 hk1 hS1 => kk u hw H1 locs1 ls (ht ▸ hB) hS1 hl)

theorem gx_callSv {idx n nb : Nat} {y : MethodName} {cb : ByteArray} {rmc : Room} {st0 : List Value} {post : gx_I → Prop} (As : List Value) (B : gx_B G X own cc nL rm lo) (L : gx_LS own idx y cb nb (none) n) (hM : gx_Mv (gx_la X) G y cb nb rmc As I post) (hn : As.length = n) (hst : st0 = As.reverse ++ st) (hsum : (st.map fun v => v.category).sum ≤ 8) (hf : rmc.frames + 1 ≤ rm.frames ∧ 8 + (nb + 11) + rmc.locals ≤ rm.locals) (hc0 : rmc.cells = 0 ∧ rmc.slots = 0) (hd : decode cc pc = .ok (.invokestatic idx, 3)) (kk : ∀ (I1 : gx_I), post I1 → gx_WG G X nL I1 (pc + 3) lv st) : gx_WG G X nL I pc lv st0 := by
  obtain ⟨p, l, e, R, s, m, args, below, meth, c, Q, A, kk0, nn0⟩ := X
  obtain ⟨⟨hx, hb, hml, hown, hts⟩, hK, hR, hG, hA, hk0, hn0⟩ := B
  intro H locs ls hP hS hl
  subst hR
  subst hst
  obtain ⟨⟨w1, w2, w3, w4⟩, hd3⟩ := L
  have hg : GoodIn gtbl (va_wsS own idx y (.code y cb nb (none) :: gtbl)) := gx_good_app [.methodLink own idx y, .static y, .initialized y.cls] (fun w hw => by simp only [List.mem_cons, List.not_mem_nil, or_false] at hw; rcases hw with rfl | rfl | rfl <;> assumption) w4
  refine va_callv (va_runS (As := As) (rest := st) ⟨hx, hb, hml, hown, hts⟩ hM (va_cwS n hts hg rfl hc0.1 hc0.2 hd3 hf) ⟨fun a' U g mk q => ⟨q.1, q.2.1, gx_K_frame q.2.2⟩, fun U hU hW => ⟨rfl, by rw [hU]; exact hP, gx_K_to hK hA hS hU hW⟩⟩ rfl hn hl.1 rfl (lv_room hsum) hd ⟨hk0, hn0⟩) hS (fun q _ h => hA q h) hA (fun u t H1 locs1 ht hvm hw hB hz1 hk1 hS1 => kk u hw H1 locs1 ls (ht ▸ hB) hS1 hl)

theorem gx_callRoot {rmc : Room} {st0 : List Value} {post : Int32 → gx_I → Prop} (As : List Value) (B : gx_B G X own cc nL rm lo) (ho : own = RX1) (w3 : Cond.initialized RX5 ∈ gtbl) (w2 : Cond.static yX5_rootOf ∈ gtbl) (w4 : Cond.code yX5_rootOf cX5_rootOf 2 (some .int) ∈ gtbl) (hM : gx_Mi (gx_la X) G yX5_rootOf cX5_rootOf 2 .int rmc As I post) (hn : As.length = 2) (hst : st0 = As.reverse ++ st) (hsum : (st.map fun v => v.category).sum ≤ 8) (hf : rmc.frames + 1 ≤ rm.frames ∧ 8 + (2 + 11) + rmc.locals ≤ rm.locals) (hc0 : rmc.cells = 0 ∧ rmc.slots = 0) (hd : decode cc pc = .ok (.invokestatic 25, 3)) (kk : ∀ (r : Int32) (I1 : gx_I), post r I1 → gx_WG G X nL I1 (pc + 3) lv (.int r :: st)) : gx_WG G X nL I pc lv st0 := by
  obtain ⟨p, l, e, R, s, m, args, below, meth, c, Q, A, kk0, nn0⟩ := X
  obtain ⟨⟨hx, hb, hml, hown, hts⟩, hK, hR, hG, hA, hk0, hn0⟩ := B
  intro H locs ls hP hS hl
  subst hR
  subst hst
  subst ho
  refine va_calli (va_runSN (As := As) (rest := st) ⟨hx, hb, hml, hown, hts⟩ hM ⟨va_cnB 2 hts (gtbl_goodL w4) rfl hc0.1 hc0.2 hK.2.2.2.2.2 (hts _ w3) (by decide +kernel) hf, hts _ w2, trivial⟩ ⟨fun a' U g mk q => ⟨q.1, q.2.1, gx_K_frame q.2.2⟩, fun U hU hW => ⟨rfl, by rw [hU]; exact hP, gx_K_to hK hA hS hU hW⟩⟩ rfl hn hl.1 rfl (lv_room hsum) hd ⟨hk0, hn0⟩) hS (fun q _ h => hA q h) hA (fun r u t H1 locs1 ht hvm hw hB hz1 hk1 hS1 => kk r u hw H1 locs1 ls (ht ▸ hB) hS1 hl)

end GX
end
section
theorem gx_mem {w : Cond} (i : Nat) (h : lw_tbl[i]? = some w) (hg : goodWord w = true) : w ∈ gtbl := List.mem_filter.mpr ⟨List.mem_of_getElem? h, hg⟩
theorem gx_mems {ws : List Cond} (ps : List Nat) (hp : ws = ps.filterMap (fun i => lw_tbl[i]?)) (h : ws.all goodWord = true) : ∀ w ∈ ws, w ∈ gtbl := fun w hw => by
  have h1 := List.all_eq_true.mp h w hw
  rw [hp] at hw
  obtain ⟨i, -, hi⟩ := List.mem_filterMap.mp hw
  exact gx_mem i hi h1
theorem inG0 : ∀ w ∈ u_ws RX0 TX0 6, w ∈ gtbl := gx_mems [225, 227, 229, 231, 233, 235] (by decide +kernel) (by decide +kernel)
theorem inG1 : ∀ w ∈ u_ws RX1 TX1 3, w ∈ gtbl := gx_mems [136, 138, 140] (by decide +kernel) (by decide +kernel)
theorem inG2 : ∀ w ∈ u_ws RX2 TX2 10, w ∈ gtbl := gx_mems [94, 96, 98, 100, 102, 104, 106, 108, 110, 112] (by decide +kernel) (by decide +kernel)
theorem inG3 : ∀ w ∈ u_ws RX3 TX3 9, w ∈ gtbl := gx_mems [170, 172, 174, 176, 178, 180, 182, 184, 186] (by decide +kernel) (by decide +kernel)
theorem inG4 : ∀ w ∈ u_ws RX4 TX4 5, w ∈ gtbl := gx_mems [198, 200, 202, 204, 206] (by decide +kernel) (by decide +kernel)
theorem inG5 : ∀ w ∈ u_ws RX5 TX5 6, w ∈ gtbl := gx_mems [392, 394, 396, 398, 400, 402] (by decide +kernel) (by decide +kernel)
theorem inG6 : ∀ w ∈ u_ws RX6 TX6 18, w ∈ gtbl := gx_mems [586, 588, 590, 592, 594, 596, 598, 600, 602, 604, 606, 608, 610, 612, 614, 616, 618, 620] (by decide +kernel) (by decide +kernel)
theorem fl_X0_9 : gx_FL RX0 9 0 0 := ⟨RX0, TX0, 6, tyX0, rfl, by decide, by decide, inG0, gx_mem 215 (by decide +kernel) (by decide +kernel), tyX0_ok, nmX0⟩
theorem fl_X0_15 : gx_FL RX0 15 0 1 := ⟨RX0, TX0, 6, tyX0, rfl, by decide, by decide, inG0, gx_mem 217 (by decide +kernel) (by decide +kernel), tyX0_ok, nmX0⟩
theorem fl_X0_18 : gx_FL RX0 18 0 2 := ⟨RX0, TX0, 6, tyX0, rfl, by decide, by decide, inG0, gx_mem 218 (by decide +kernel) (by decide +kernel), tyX0_ok, nmX0⟩
theorem fl_X0_22 : gx_FL RX0 22 0 3 := ⟨RX0, TX0, 6, tyX0, rfl, by decide, by decide, inG0, gx_mem 219 (by decide +kernel) (by decide +kernel), tyX0_ok, nmX0⟩
theorem fl_X0_25 : gx_FL RX0 25 0 4 := ⟨RX0, TX0, 6, tyX0, rfl, by decide, by decide, inG0, gx_mem 221 (by decide +kernel) (by decide +kernel), tyX0_ok, nmX0⟩
theorem fl_X0_28 : gx_FL RX0 28 0 5 := ⟨RX0, TX0, 6, tyX0, rfl, by decide, by decide, inG0, gx_mem 223 (by decide +kernel) (by decide +kernel), tyX0_ok, nmX0⟩
theorem fl_X0_31 : gx_FL RX0 31 2 5 := ⟨RX2, TX2, 10, tyX2, rfl, by decide, by decide, inG2, gx_mem 79 (by decide +kernel) (by decide +kernel), tyX2_ok, nmX2⟩
theorem fl_X0_34 : gx_FL RX0 34 2 8 := ⟨RX2, TX2, 10, tyX2, rfl, by decide, by decide, inG2, gx_mem 89 (by decide +kernel) (by decide +kernel), tyX2_ok, nmX2⟩
theorem fl_X0_37 : gx_FL RX0 37 2 2 := ⟨RX2, TX2, 10, tyX2, rfl, by decide, by decide, inG2, gx_mem 72 (by decide +kernel) (by decide +kernel), tyX2_ok, nmX2⟩
theorem fl_X0_51 : gx_FL RX0 51 2 9 := ⟨RX2, TX2, 10, tyX2, rfl, by decide, by decide, inG2, gx_mem 92 (by decide +kernel) (by decide +kernel), tyX2_ok, nmX2⟩
theorem fl_X1_9 : gx_FL RX1 9 1 0 := ⟨RX1, TX1, 3, tyX1, rfl, by decide, by decide, inG1, gx_mem 128 (by decide +kernel) (by decide +kernel), tyX1_ok, nmX1⟩
theorem fl_X1_15 : gx_FL RX1 15 1 1 := ⟨RX1, TX1, 3, tyX1, rfl, by decide, by decide, inG1, gx_mem 132 (by decide +kernel) (by decide +kernel), tyX1_ok, nmX1⟩
theorem fl_X1_18 : gx_FL RX1 18 1 2 := ⟨RX1, TX1, 3, tyX1, rfl, by decide, by decide, inG1, gx_mem 134 (by decide +kernel) (by decide +kernel), tyX1_ok, nmX1⟩
theorem fl_X2_9 : gx_FL RX2 9 2 0 := ⟨RX2, TX2, 10, tyX2, rfl, by decide, by decide, inG2, gx_mem 67 (by decide +kernel) (by decide +kernel), tyX2_ok, nmX2⟩
theorem fl_X2_15 : gx_FL RX2 15 2 1 := ⟨RX2, TX2, 10, tyX2, rfl, by decide, by decide, inG2, gx_mem 69 (by decide +kernel) (by decide +kernel), tyX2_ok, nmX2⟩
theorem fl_X2_18 : gx_FL RX2 18 2 2 := ⟨RX2, TX2, 10, tyX2, rfl, by decide, by decide, inG2, gx_mem 71 (by decide +kernel) (by decide +kernel), tyX2_ok, nmX2⟩
theorem fl_X2_21 : gx_FL RX2 21 2 3 := ⟨RX2, TX2, 10, tyX2, rfl, by decide, by decide, inG2, gx_mem 74 (by decide +kernel) (by decide +kernel), tyX2_ok, nmX2⟩
theorem fl_X2_24 : gx_FL RX2 24 2 4 := ⟨RX2, TX2, 10, tyX2, rfl, by decide, by decide, inG2, gx_mem 76 (by decide +kernel) (by decide +kernel), tyX2_ok, nmX2⟩
theorem fl_X2_27 : gx_FL RX2 27 2 5 := ⟨RX2, TX2, 10, tyX2, rfl, by decide, by decide, inG2, gx_mem 78 (by decide +kernel) (by decide +kernel), tyX2_ok, nmX2⟩
theorem fl_X2_30 : gx_FL RX2 30 2 6 := ⟨RX2, TX2, 10, tyX2, rfl, by decide, by decide, inG2, gx_mem 82 (by decide +kernel) (by decide +kernel), tyX2_ok, nmX2⟩
theorem fl_X2_34 : gx_FL RX2 34 2 7 := ⟨RX2, TX2, 10, tyX2, rfl, by decide, by decide, inG2, gx_mem 85 (by decide +kernel) (by decide +kernel), tyX2_ok, nmX2⟩
theorem fl_X2_37 : gx_FL RX2 37 2 8 := ⟨RX2, TX2, 10, tyX2, rfl, by decide, by decide, inG2, gx_mem 88 (by decide +kernel) (by decide +kernel), tyX2_ok, nmX2⟩
theorem fl_X2_40 : gx_FL RX2 40 2 9 := ⟨RX2, TX2, 10, tyX2, rfl, by decide, by decide, inG2, gx_mem 91 (by decide +kernel) (by decide +kernel), tyX2_ok, nmX2⟩
theorem fl_X3_9 : gx_FL RX3 9 3 0 := ⟨RX3, TX3, 9, tyX3, rfl, by decide, by decide, inG3, gx_mem 152 (by decide +kernel) (by decide +kernel), tyX3_ok, nmX3⟩
theorem fl_X3_15 : gx_FL RX3 15 3 1 := ⟨RX3, TX3, 9, tyX3, rfl, by decide, by decide, inG3, gx_mem 154 (by decide +kernel) (by decide +kernel), tyX3_ok, nmX3⟩
theorem fl_X3_19 : gx_FL RX3 19 3 2 := ⟨RX3, TX3, 9, tyX3, rfl, by decide, by decide, inG3, gx_mem 157 (by decide +kernel) (by decide +kernel), tyX3_ok, nmX3⟩
theorem fl_X3_28 : gx_FL RX3 28 3 5 := ⟨RX3, TX3, 9, tyX3, rfl, by decide, by decide, inG3, gx_mem 166 (by decide +kernel) (by decide +kernel), tyX3_ok, nmX3⟩
theorem fl_X3_31 : gx_FL RX3 31 3 6 := ⟨RX3, TX3, 9, tyX3, rfl, by decide, by decide, inG3, gx_mem 167 (by decide +kernel) (by decide +kernel), tyX3_ok, nmX3⟩
theorem fl_X3_34 : gx_FL RX3 34 3 7 := ⟨RX3, TX3, 9, tyX3, rfl, by decide, by decide, inG3, gx_mem 168 (by decide +kernel) (by decide +kernel), tyX3_ok, nmX3⟩
theorem fl_X3_37 : gx_FL RX3 37 3 8 := ⟨RX3, TX3, 9, tyX3, rfl, by decide, by decide, inG3, gx_mem 169 (by decide +kernel) (by decide +kernel), tyX3_ok, nmX3⟩
theorem fl_X3_64 : gx_FL RX3 64 1 2 := ⟨RX1, TX1, 3, tyX1, rfl, by decide, by decide, inG1, gx_mem 135 (by decide +kernel) (by decide +kernel), tyX1_ok, nmX1⟩
theorem fl_X3_67 : gx_FL RX3 67 1 1 := ⟨RX1, TX1, 3, tyX1, rfl, by decide, by decide, inG1, gx_mem 133 (by decide +kernel) (by decide +kernel), tyX1_ok, nmX1⟩
theorem fl_X3_70 : gx_FL RX3 70 1 0 := ⟨RX1, TX1, 3, tyX1, rfl, by decide, by decide, inG1, gx_mem 130 (by decide +kernel) (by decide +kernel), tyX1_ok, nmX1⟩
theorem fl_X4_12 : gx_FL RX4 12 4 0 := ⟨RX4, TX4, 5, tyX4, rfl, by decide, by decide, inG4, gx_mem 189 (by decide +kernel) (by decide +kernel), tyX4_ok, nmX4⟩
theorem fl_X4_20 : gx_FL RX4 20 4 1 := ⟨RX4, TX4, 5, tyX4, rfl, by decide, by decide, inG4, gx_mem 191 (by decide +kernel) (by decide +kernel), tyX4_ok, nmX4⟩
theorem fl_X4_24 : gx_FL RX4 24 4 2 := ⟨RX4, TX4, 5, tyX4, rfl, by decide, by decide, inG4, gx_mem 193 (by decide +kernel) (by decide +kernel), tyX4_ok, nmX4⟩
theorem fl_X4_28 : gx_FL RX4 28 4 3 := ⟨RX4, TX4, 5, tyX4, rfl, by decide, by decide, inG4, gx_mem 195 (by decide +kernel) (by decide +kernel), tyX4_ok, nmX4⟩
theorem fl_X4_34 : gx_FL RX4 34 4 4 := ⟨RX4, TX4, 5, tyX4, rfl, by decide, by decide, inG4, gx_mem 197 (by decide +kernel) (by decide +kernel), tyX4_ok, nmX4⟩
theorem fl_X4_42 : gx_FL RX4 42 2 5 := ⟨RX2, TX2, 10, tyX2, rfl, by decide, by decide, inG2, gx_mem 80 (by decide +kernel) (by decide +kernel), tyX2_ok, nmX2⟩
theorem fl_X4_47 : gx_FL RX4 47 2 6 := ⟨RX2, TX2, 10, tyX2, rfl, by decide, by decide, inG2, gx_mem 83 (by decide +kernel) (by decide +kernel), tyX2_ok, nmX2⟩
theorem fl_X4_50 : gx_FL RX4 50 2 7 := ⟨RX2, TX2, 10, tyX2, rfl, by decide, by decide, inG2, gx_mem 86 (by decide +kernel) (by decide +kernel), tyX2_ok, nmX2⟩
theorem fl_X4_61 : gx_FL RX4 61 3 2 := ⟨RX3, TX3, 9, tyX3, rfl, by decide, by decide, inG3, gx_mem 158 (by decide +kernel) (by decide +kernel), tyX3_ok, nmX3⟩
theorem fl_X4_72 : gx_FL RX4 72 3 1 := ⟨RX3, TX3, 9, tyX3, rfl, by decide, by decide, inG3, gx_mem 155 (by decide +kernel) (by decide +kernel), tyX3_ok, nmX3⟩
theorem fl_X4_93 : gx_FL RX4 93 1 0 := ⟨RX1, TX1, 3, tyX1, rfl, by decide, by decide, inG1, gx_mem 131 (by decide +kernel) (by decide +kernel), tyX1_ok, nmX1⟩
theorem fl_X4_99 : gx_FL RX4 99 3 0 := ⟨RX3, TX3, 9, tyX3, rfl, by decide, by decide, inG3, gx_mem 153 (by decide +kernel) (by decide +kernel), tyX3_ok, nmX3⟩
theorem fl_X4_102 : gx_FL RX4 102 3 3 := ⟨RX3, TX3, 9, tyX3, rfl, by decide, by decide, inG3, gx_mem 161 (by decide +kernel) (by decide +kernel), tyX3_ok, nmX3⟩
theorem fl_X4_105 : gx_FL RX4 105 3 4 := ⟨RX3, TX3, 9, tyX3, rfl, by decide, by decide, inG3, gx_mem 165 (by decide +kernel) (by decide +kernel), tyX3_ok, nmX3⟩
theorem fl_X5_10 : gx_FL RX5 10 5 0 := ⟨RX5, TX5, 6, tyX5, rfl, by decide, by decide, inG5, gx_mem 386 (by decide +kernel) (by decide +kernel), tyX5_ok, nmX5⟩
theorem fl_X5_16 : gx_FL RX5 16 5 1 := ⟨RX5, TX5, 6, tyX5, rfl, by decide, by decide, inG5, gx_mem 387 (by decide +kernel) (by decide +kernel), tyX5_ok, nmX5⟩
theorem fl_X5_19 : gx_FL RX5 19 5 2 := ⟨RX5, TX5, 6, tyX5, rfl, by decide, by decide, inG5, gx_mem 388 (by decide +kernel) (by decide +kernel), tyX5_ok, nmX5⟩
theorem fl_X5_26 : gx_FL RX5 26 5 3 := ⟨RX5, TX5, 6, tyX5, rfl, by decide, by decide, inG5, gx_mem 389 (by decide +kernel) (by decide +kernel), tyX5_ok, nmX5⟩
theorem fl_X5_30 : gx_FL RX5 30 5 4 := ⟨RX5, TX5, 6, tyX5, rfl, by decide, by decide, inG5, gx_mem 390 (by decide +kernel) (by decide +kernel), tyX5_ok, nmX5⟩
theorem fl_X5_36 : gx_FL RX5 36 5 5 := ⟨RX5, TX5, 6, tyX5, rfl, by decide, by decide, inG5, gx_mem 391 (by decide +kernel) (by decide +kernel), tyX5_ok, nmX5⟩
theorem fl_X5_40 : gx_FL RX5 40 2 0 := ⟨RX2, TX2, 10, tyX2, rfl, by decide, by decide, inG2, gx_mem 68 (by decide +kernel) (by decide +kernel), tyX2_ok, nmX2⟩
theorem fl_X5_44 : gx_FL RX5 44 2 1 := ⟨RX2, TX2, 10, tyX2, rfl, by decide, by decide, inG2, gx_mem 70 (by decide +kernel) (by decide +kernel), tyX2_ok, nmX2⟩
theorem fl_X5_58 : gx_FL RX5 58 4 0 := ⟨RX4, TX4, 5, tyX4, rfl, by decide, by decide, inG4, gx_mem 190 (by decide +kernel) (by decide +kernel), tyX4_ok, nmX4⟩
theorem fl_X5_62 : gx_FL RX5 62 1 0 := ⟨RX1, TX1, 3, tyX1, rfl, by decide, by decide, inG1, gx_mem 129 (by decide +kernel) (by decide +kernel), tyX1_ok, nmX1⟩
theorem fl_X5_86 : gx_FL RX5 86 2 5 := ⟨RX2, TX2, 10, tyX2, rfl, by decide, by decide, inG2, gx_mem 81 (by decide +kernel) (by decide +kernel), tyX2_ok, nmX2⟩
theorem fl_X5_101 : gx_FL RX5 101 2 6 := ⟨RX2, TX2, 10, tyX2, rfl, by decide, by decide, inG2, gx_mem 84 (by decide +kernel) (by decide +kernel), tyX2_ok, nmX2⟩
theorem fl_X5_104 : gx_FL RX5 104 2 7 := ⟨RX2, TX2, 10, tyX2, rfl, by decide, by decide, inG2, gx_mem 87 (by decide +kernel) (by decide +kernel), tyX2_ok, nmX2⟩
theorem fl_X5_107 : gx_FL RX5 107 2 8 := ⟨RX2, TX2, 10, tyX2, rfl, by decide, by decide, inG2, gx_mem 90 (by decide +kernel) (by decide +kernel), tyX2_ok, nmX2⟩
theorem fl_X5_110 : gx_FL RX5 110 2 9 := ⟨RX2, TX2, 10, tyX2, rfl, by decide, by decide, inG2, gx_mem 93 (by decide +kernel) (by decide +kernel), tyX2_ok, nmX2⟩
theorem fl_X5_113 : gx_FL RX5 113 4 1 := ⟨RX4, TX4, 5, tyX4, rfl, by decide, by decide, inG4, gx_mem 192 (by decide +kernel) (by decide +kernel), tyX4_ok, nmX4⟩
theorem fl_X5_117 : gx_FL RX5 117 3 3 := ⟨RX3, TX3, 9, tyX3, rfl, by decide, by decide, inG3, gx_mem 162 (by decide +kernel) (by decide +kernel), tyX3_ok, nmX3⟩
theorem fl_X5_122 : gx_FL RX5 122 3 4 := ⟨RX3, TX3, 9, tyX3, rfl, by decide, by decide, inG3, gx_mem 164 (by decide +kernel) (by decide +kernel), tyX3_ok, nmX3⟩
theorem fl_X5_125 : gx_FL RX5 125 3 2 := ⟨RX3, TX3, 9, tyX3, rfl, by decide, by decide, inG3, gx_mem 159 (by decide +kernel) (by decide +kernel), tyX3_ok, nmX3⟩
theorem fl_X5_128 : gx_FL RX5 128 3 1 := ⟨RX3, TX3, 9, tyX3, rfl, by decide, by decide, inG3, gx_mem 156 (by decide +kernel) (by decide +kernel), tyX3_ok, nmX3⟩
theorem fl_X5_134 : gx_FL RX5 134 4 2 := ⟨RX4, TX4, 5, tyX4, rfl, by decide, by decide, inG4, gx_mem 194 (by decide +kernel) (by decide +kernel), tyX4_ok, nmX4⟩
theorem fl_X5_137 : gx_FL RX5 137 4 3 := ⟨RX4, TX4, 5, tyX4, rfl, by decide, by decide, inG4, gx_mem 196 (by decide +kernel) (by decide +kernel), tyX4_ok, nmX4⟩
theorem fl_X5_150 : gx_FL RX5 150 0 0 := ⟨RX0, TX0, 6, tyX0, rfl, by decide, by decide, inG0, gx_mem 216 (by decide +kernel) (by decide +kernel), tyX0_ok, nmX0⟩
theorem fl_X5_157 : gx_FL RX5 157 0 3 := ⟨RX0, TX0, 6, tyX0, rfl, by decide, by decide, inG0, gx_mem 220 (by decide +kernel) (by decide +kernel), tyX0_ok, nmX0⟩
theorem fl_X5_163 : gx_FL RX5 163 2 4 := ⟨RX2, TX2, 10, tyX2, rfl, by decide, by decide, inG2, gx_mem 77 (by decide +kernel) (by decide +kernel), tyX2_ok, nmX2⟩
theorem fl_X5_169 : gx_FL RX5 169 0 4 := ⟨RX0, TX0, 6, tyX0, rfl, by decide, by decide, inG0, gx_mem 222 (by decide +kernel) (by decide +kernel), tyX0_ok, nmX0⟩
theorem fl_X5_172 : gx_FL RX5 172 0 5 := ⟨RX0, TX0, 6, tyX0, rfl, by decide, by decide, inG0, gx_mem 224 (by decide +kernel) (by decide +kernel), tyX0_ok, nmX0⟩
theorem fl_X5_196 : gx_FL RX5 196 2 2 := ⟨RX2, TX2, 10, tyX2, rfl, by decide, by decide, inG2, gx_mem 73 (by decide +kernel) (by decide +kernel), tyX2_ok, nmX2⟩
theorem fl_X5_202 : gx_FL RX5 202 2 3 := ⟨RX2, TX2, 10, tyX2, rfl, by decide, by decide, inG2, gx_mem 75 (by decide +kernel) (by decide +kernel), tyX2_ok, nmX2⟩
theorem fl_X6_7 : gx_FL RX6 7 6 0 := ⟨RX6, TX6, 18, tyX6, rfl, by decide, by decide, inG6, gx_mem 568 (by decide +kernel) (by decide +kernel), tyX6_ok, nmX6⟩
theorem fl_X6_13 : gx_FL RX6 13 6 1 := ⟨RX6, TX6, 18, tyX6, rfl, by decide, by decide, inG6, gx_mem 569 (by decide +kernel) (by decide +kernel), tyX6_ok, nmX6⟩
theorem fl_X6_16 : gx_FL RX6 16 6 3 := ⟨RX6, TX6, 18, tyX6, rfl, by decide, by decide, inG6, gx_mem 571 (by decide +kernel) (by decide +kernel), tyX6_ok, nmX6⟩
theorem fl_X6_19 : gx_FL RX6 19 6 4 := ⟨RX6, TX6, 18, tyX6, rfl, by decide, by decide, inG6, gx_mem 572 (by decide +kernel) (by decide +kernel), tyX6_ok, nmX6⟩
theorem fl_X6_22 : gx_FL RX6 22 6 5 := ⟨RX6, TX6, 18, tyX6, rfl, by decide, by decide, inG6, gx_mem 573 (by decide +kernel) (by decide +kernel), tyX6_ok, nmX6⟩
theorem fl_X6_25 : gx_FL RX6 25 6 6 := ⟨RX6, TX6, 18, tyX6, rfl, by decide, by decide, inG6, gx_mem 574 (by decide +kernel) (by decide +kernel), tyX6_ok, nmX6⟩
theorem fl_X6_28 : gx_FL RX6 28 6 7 := ⟨RX6, TX6, 18, tyX6, rfl, by decide, by decide, inG6, gx_mem 575 (by decide +kernel) (by decide +kernel), tyX6_ok, nmX6⟩
theorem fl_X6_31 : gx_FL RX6 31 6 8 := ⟨RX6, TX6, 18, tyX6, rfl, by decide, by decide, inG6, gx_mem 576 (by decide +kernel) (by decide +kernel), tyX6_ok, nmX6⟩
theorem fl_X6_34 : gx_FL RX6 34 6 9 := ⟨RX6, TX6, 18, tyX6, rfl, by decide, by decide, inG6, gx_mem 577 (by decide +kernel) (by decide +kernel), tyX6_ok, nmX6⟩
theorem fl_X6_37 : gx_FL RX6 37 6 11 := ⟨RX6, TX6, 18, tyX6, rfl, by decide, by decide, inG6, gx_mem 579 (by decide +kernel) (by decide +kernel), tyX6_ok, nmX6⟩
theorem fl_X6_40 : gx_FL RX6 40 6 12 := ⟨RX6, TX6, 18, tyX6, rfl, by decide, by decide, inG6, gx_mem 580 (by decide +kernel) (by decide +kernel), tyX6_ok, nmX6⟩
theorem fl_X6_43 : gx_FL RX6 43 6 14 := ⟨RX6, TX6, 18, tyX6, rfl, by decide, by decide, inG6, gx_mem 582 (by decide +kernel) (by decide +kernel), tyX6_ok, nmX6⟩
theorem fl_X6_46 : gx_FL RX6 46 6 15 := ⟨RX6, TX6, 18, tyX6, rfl, by decide, by decide, inG6, gx_mem 583 (by decide +kernel) (by decide +kernel), tyX6_ok, nmX6⟩
theorem fl_X6_49 : gx_FL RX6 49 6 16 := ⟨RX6, TX6, 18, tyX6, rfl, by decide, by decide, inG6, gx_mem 584 (by decide +kernel) (by decide +kernel), tyX6_ok, nmX6⟩
theorem fl_X6_82 : gx_FL RX6 82 6 10 := ⟨RX6, TX6, 18, tyX6, rfl, by decide, by decide, inG6, gx_mem 578 (by decide +kernel) (by decide +kernel), tyX6_ok, nmX6⟩
theorem fl_X6_121 : gx_FL RX6 121 6 13 := ⟨RX6, TX6, 18, tyX6, rfl, by decide, by decide, inG6, gx_mem 581 (by decide +kernel) (by decide +kernel), tyX6_ok, nmX6⟩
theorem fl_X6_136 : gx_FL RX6 136 6 17 := ⟨RX6, TX6, 18, tyX6, rfl, by decide, by decide, inG6, gx_mem 585 (by decide +kernel) (by decide +kernel), tyX6_ok, nmX6⟩
theorem fl_X6_158 : gx_FL RX6 158 6 2 := ⟨RX6, TX6, 18, tyX6, rfl, by decide, by decide, inG6, gx_mem 570 (by decide +kernel) (by decide +kernel), tyX6_ok, nmX6⟩
theorem fw_X0_18 : gx_FW RX0 18 0 2 .int := ⟨RX0, TX0, 6, tyX0, rfl, by decide, by decide, inG0, gx_mem 218 (by decide +kernel) (by decide +kernel), tyX0_ok, nmX0, rfl, by decide +kernel⟩
theorem fw_X0_22 : gx_FW RX0 22 0 3 .int := ⟨RX0, TX0, 6, tyX0, rfl, by decide, by decide, inG0, gx_mem 219 (by decide +kernel) (by decide +kernel), tyX0_ok, nmX0, rfl, by decide +kernel⟩
theorem fw_X0_25 : gx_FW RX0 25 0 4 .int := ⟨RX0, TX0, 6, tyX0, rfl, by decide, by decide, inG0, gx_mem 221 (by decide +kernel) (by decide +kernel), tyX0_ok, nmX0, rfl, by decide +kernel⟩
theorem fw_X0_28 : gx_FW RX0 28 0 5 .int := ⟨RX0, TX0, 6, tyX0, rfl, by decide, by decide, inG0, gx_mem 223 (by decide +kernel) (by decide +kernel), tyX0_ok, nmX0, rfl, by decide +kernel⟩
theorem fw_X1_18 : gx_FW RX1 18 1 2 .int := ⟨RX1, TX1, 3, tyX1, rfl, by decide, by decide, inG1, gx_mem 134 (by decide +kernel) (by decide +kernel), tyX1_ok, nmX1, rfl, by decide +kernel⟩
theorem fw_X2_9 : gx_FW RX2 9 2 0 .int := ⟨RX2, TX2, 10, tyX2, rfl, by decide, by decide, inG2, gx_mem 67 (by decide +kernel) (by decide +kernel), tyX2_ok, nmX2, rfl, by decide +kernel⟩
theorem fw_X2_15 : gx_FW RX2 15 2 1 .int := ⟨RX2, TX2, 10, tyX2, rfl, by decide, by decide, inG2, gx_mem 69 (by decide +kernel) (by decide +kernel), tyX2_ok, nmX2, rfl, by decide +kernel⟩
theorem fw_X2_18 : gx_FW RX2 18 2 2 .int := ⟨RX2, TX2, 10, tyX2, rfl, by decide, by decide, inG2, gx_mem 71 (by decide +kernel) (by decide +kernel), tyX2_ok, nmX2, rfl, by decide +kernel⟩
theorem fw_X2_21 : gx_FW RX2 21 2 3 .int := ⟨RX2, TX2, 10, tyX2, rfl, by decide, by decide, inG2, gx_mem 74 (by decide +kernel) (by decide +kernel), tyX2_ok, nmX2, rfl, by decide +kernel⟩
theorem fw_X2_24 : gx_FW RX2 24 2 4 .int := ⟨RX2, TX2, 10, tyX2, rfl, by decide, by decide, inG2, gx_mem 76 (by decide +kernel) (by decide +kernel), tyX2_ok, nmX2, rfl, by decide +kernel⟩
theorem fw_X2_27 : gx_FW RX2 27 2 5 .int := ⟨RX2, TX2, 10, tyX2, rfl, by decide, by decide, inG2, gx_mem 78 (by decide +kernel) (by decide +kernel), tyX2_ok, nmX2, rfl, by decide +kernel⟩
theorem fw_X3_15 : gx_FW RX3 15 3 1 .int := ⟨RX3, TX3, 9, tyX3, rfl, by decide, by decide, inG3, gx_mem 154 (by decide +kernel) (by decide +kernel), tyX3_ok, nmX3, rfl, by decide +kernel⟩
theorem fw_X3_19 : gx_FW RX3 19 3 2 .int := ⟨RX3, TX3, 9, tyX3, rfl, by decide, by decide, inG3, gx_mem 157 (by decide +kernel) (by decide +kernel), tyX3_ok, nmX3, rfl, by decide +kernel⟩
theorem fw_X3_22 : gx_FW RX3 22 3 3 .int := ⟨RX3, TX3, 9, tyX3, rfl, by decide, by decide, inG3, gx_mem 160 (by decide +kernel) (by decide +kernel), tyX3_ok, nmX3, rfl, by decide +kernel⟩
theorem fw_X3_25 : gx_FW RX3 25 3 4 .int := ⟨RX3, TX3, 9, tyX3, rfl, by decide, by decide, inG3, gx_mem 163 (by decide +kernel) (by decide +kernel), tyX3_ok, nmX3, rfl, by decide +kernel⟩
theorem fw_X3_28 : gx_FW RX3 28 3 5 .int := ⟨RX3, TX3, 9, tyX3, rfl, by decide, by decide, inG3, gx_mem 166 (by decide +kernel) (by decide +kernel), tyX3_ok, nmX3, rfl, by decide +kernel⟩
theorem fw_X3_31 : gx_FW RX3 31 3 6 .int := ⟨RX3, TX3, 9, tyX3, rfl, by decide, by decide, inG3, gx_mem 167 (by decide +kernel) (by decide +kernel), tyX3_ok, nmX3, rfl, by decide +kernel⟩
theorem fw_X3_34 : gx_FW RX3 34 3 7 .int := ⟨RX3, TX3, 9, tyX3, rfl, by decide, by decide, inG3, gx_mem 168 (by decide +kernel) (by decide +kernel), tyX3_ok, nmX3, rfl, by decide +kernel⟩
theorem fw_X3_37 : gx_FW RX3 37 3 8 .int := ⟨RX3, TX3, 9, tyX3, rfl, by decide, by decide, inG3, gx_mem 169 (by decide +kernel) (by decide +kernel), tyX3_ok, nmX3, rfl, by decide +kernel⟩
theorem fw_X4_28 : gx_FW RX4 28 4 3 .int := ⟨RX4, TX4, 5, tyX4, rfl, by decide, by decide, inG4, gx_mem 195 (by decide +kernel) (by decide +kernel), tyX4_ok, nmX4, rfl, by decide +kernel⟩
theorem fw_X5_19 : gx_FW RX5 19 5 2 .boolean := ⟨RX5, TX5, 6, tyX5, rfl, by decide, by decide, inG5, gx_mem 388 (by decide +kernel) (by decide +kernel), tyX5_ok, nmX5, rfl, by decide +kernel⟩
theorem fw_X5_40 : gx_FW RX5 40 2 0 .int := ⟨RX2, TX2, 10, tyX2, rfl, by decide, by decide, inG2, gx_mem 68 (by decide +kernel) (by decide +kernel), tyX2_ok, nmX2, rfl, by decide +kernel⟩
theorem fw_X5_44 : gx_FW RX5 44 2 1 .int := ⟨RX2, TX2, 10, tyX2, rfl, by decide, by decide, inG2, gx_mem 70 (by decide +kernel) (by decide +kernel), tyX2_ok, nmX2, rfl, by decide +kernel⟩
theorem fw_X5_86 : gx_FW RX5 86 2 5 .int := ⟨RX2, TX2, 10, tyX2, rfl, by decide, by decide, inG2, gx_mem 81 (by decide +kernel) (by decide +kernel), tyX2_ok, nmX2, rfl, by decide +kernel⟩
theorem fw_X5_163 : gx_FW RX5 163 2 4 .int := ⟨RX2, TX2, 10, tyX2, rfl, by decide, by decide, inG2, gx_mem 77 (by decide +kernel) (by decide +kernel), tyX2_ok, nmX2, rfl, by decide +kernel⟩
theorem fw_X5_196 : gx_FW RX5 196 2 2 .int := ⟨RX2, TX2, 10, tyX2, rfl, by decide, by decide, inG2, gx_mem 73 (by decide +kernel) (by decide +kernel), tyX2_ok, nmX2, rfl, by decide +kernel⟩
theorem fw_X5_202 : gx_FW RX5 202 2 3 .int := ⟨RX2, TX2, 10, tyX2, rfl, by decide, by decide, inG2, gx_mem 75 (by decide +kernel) (by decide +kernel), tyX2_ok, nmX2, rfl, by decide +kernel⟩
theorem fw_X6_82 : gx_FW RX6 82 6 10 .int := ⟨RX6, TX6, 18, tyX6, rfl, by decide, by decide, inG6, gx_mem 578 (by decide +kernel) (by decide +kernel), tyX6_ok, nmX6, rfl, by decide +kernel⟩
theorem fw_X6_121 : gx_FW RX6 121 6 13 .int := ⟨RX6, TX6, 18, tyX6, rfl, by decide, by decide, inG6, gx_mem 581 (by decide +kernel) (by decide +kernel), tyX6_ok, nmX6, rfl, by decide +kernel⟩
theorem fw_X6_136 : gx_FW RX6 136 6 17 .int := ⟨RX6, TX6, 18, tyX6, rfl, by decide, by decide, inG6, gx_mem 585 (by decide +kernel) (by decide +kernel), tyX6_ok, nmX6, rfl, by decide +kernel⟩
theorem fw_X6_158 : gx_FW RX6 158 6 2 .boolean := ⟨RX6, TX6, 18, tyX6, rfl, by decide, by decide, inG6, gx_mem 570 (by decide +kernel) (by decide +kernel), tyX6_ok, nmX6, rfl, by decide +kernel⟩
theorem mw_X5_system : Cond.instanceMethod yX5_system ∈ gtbl ∧ Cond.selects (yX5_system).cls yX5_system yX5_system ∈ gtbl ∧ Cond.initialized (yX5_system).cls ∈ gtbl ∧ Cond.code yX5_system cX5_system 3 (some .int) ∈ gtbl := ⟨gx_mem 406 (by decide +kernel) (by decide +kernel), gx_mem 407 (by decide +kernel) (by decide +kernel), gx_mem 44 (by decide +kernel) (by decide +kernel), gx_mem 408 (by decide +kernel) (by decide +kernel)⟩
theorem lv_L_13 : gx_LV RL 13 5 yX5_system cX5_system 3 (some .int) 2 := ⟨⟨TX5, 6, rfl⟩, by decide, ⟨gx_mem 405 (by decide +kernel) (by decide +kernel), mw_X5_system⟩, by decide +kernel⟩
theorem mw_X6_system : Cond.instanceMethod yX6_system ∈ gtbl ∧ Cond.selects (yX6_system).cls yX6_system yX6_system ∈ gtbl ∧ Cond.initialized (yX6_system).cls ∈ gtbl ∧ Cond.code yX6_system cX6_system 3 (some .int) ∈ gtbl := ⟨gx_mem 624 (by decide +kernel) (by decide +kernel), gx_mem 625 (by decide +kernel) (by decide +kernel), gx_mem 52 (by decide +kernel) (by decide +kernel), gx_mem 626 (by decide +kernel) (by decide +kernel)⟩
theorem lv_L_17 : gx_LV RL 17 6 yX6_system cX6_system 3 (some .int) 2 := ⟨⟨TX6, 18, rfl⟩, by decide, ⟨gx_mem 623 (by decide +kernel) (by decide +kernel), mw_X6_system⟩, by decide +kernel⟩
theorem mw_X5_sound : Cond.instanceMethod yX5_sound ∈ gtbl ∧ Cond.selects (yX5_sound).cls yX5_sound yX5_sound ∈ gtbl ∧ Cond.initialized (yX5_sound).cls ∈ gtbl ∧ Cond.code yX5_sound cX5_sound 3 (some .int) ∈ gtbl := ⟨gx_mem 413 (by decide +kernel) (by decide +kernel), gx_mem 414 (by decide +kernel) (by decide +kernel), gx_mem 44 (by decide +kernel) (by decide +kernel), gx_mem 415 (by decide +kernel) (by decide +kernel)⟩
theorem lv_L_18 : gx_LV RL 18 5 yX5_sound cX5_sound 3 (some .int) 1 := ⟨⟨TX5, 6, rfl⟩, by decide, ⟨gx_mem 412 (by decide +kernel) (by decide +kernel), mw_X5_sound⟩, by decide +kernel⟩
theorem mw_X6_sound : Cond.instanceMethod yX6_sound ∈ gtbl ∧ Cond.selects (yX6_sound).cls yX6_sound yX6_sound ∈ gtbl ∧ Cond.initialized (yX6_sound).cls ∈ gtbl ∧ Cond.code yX6_sound cX6_sound 2 (some .int) ∈ gtbl := ⟨gx_mem 634 (by decide +kernel) (by decide +kernel), gx_mem 635 (by decide +kernel) (by decide +kernel), gx_mem 52 (by decide +kernel) (by decide +kernel), gx_mem 636 (by decide +kernel) (by decide +kernel)⟩
theorem lv_L_22 : gx_LV RL 22 6 yX6_sound cX6_sound 2 (some .int) 1 := ⟨⟨TX6, 18, rfl⟩, by decide, ⟨gx_mem 633 (by decide +kernel) (by decide +kernel), mw_X6_sound⟩, by decide +kernel⟩
theorem mw_X5_root : Cond.instanceMethod yX5_root ∈ gtbl ∧ Cond.selects (yX5_root).cls yX5_root yX5_root ∈ gtbl ∧ Cond.initialized (yX5_root).cls ∈ gtbl ∧ Cond.code yX5_root cX5_root 2 (some .int) ∈ gtbl := ⟨gx_mem 417 (by decide +kernel) (by decide +kernel), gx_mem 418 (by decide +kernel) (by decide +kernel), gx_mem 44 (by decide +kernel) (by decide +kernel), gx_mem 419 (by decide +kernel) (by decide +kernel)⟩
theorem lv_L_23 : gx_LV RL 23 5 yX5_root cX5_root 2 (some .int) 1 := ⟨⟨TX5, 6, rfl⟩, by decide, ⟨gx_mem 416 (by decide +kernel) (by decide +kernel), mw_X5_root⟩, by decide +kernel⟩
theorem mw_X6_root : Cond.instanceMethod yX6_root ∈ gtbl ∧ Cond.selects (yX6_root).cls yX6_root yX6_root ∈ gtbl ∧ Cond.initialized (yX6_root).cls ∈ gtbl ∧ Cond.code yX6_root cX6_root 2 (some .int) ∈ gtbl := ⟨gx_mem 650 (by decide +kernel) (by decide +kernel), gx_mem 651 (by decide +kernel) (by decide +kernel), gx_mem 52 (by decide +kernel) (by decide +kernel), gx_mem 652 (by decide +kernel) (by decide +kernel)⟩
theorem lv_L_26 : gx_LV RL 26 6 yX6_root cX6_root 2 (some .int) 1 := ⟨⟨TX6, 18, rfl⟩, by decide, ⟨gx_mem 649 (by decide +kernel) (by decide +kernel), mw_X6_root⟩, by decide +kernel⟩
theorem mw_X5_rule : Cond.instanceMethod yX5_rule ∈ gtbl ∧ Cond.selects (yX5_rule).cls yX5_rule yX5_rule ∈ gtbl ∧ Cond.initialized (yX5_rule).cls ∈ gtbl ∧ Cond.code yX5_rule cX5_rule 3 (some .int) ∈ gtbl := ⟨gx_mem 422 (by decide +kernel) (by decide +kernel), gx_mem 423 (by decide +kernel) (by decide +kernel), gx_mem 44 (by decide +kernel) (by decide +kernel), gx_mem 424 (by decide +kernel) (by decide +kernel)⟩
theorem lv_L_27 : gx_LV RL 27 5 yX5_rule cX5_rule 3 (some .int) 2 := ⟨⟨TX5, 6, rfl⟩, by decide, ⟨gx_mem 421 (by decide +kernel) (by decide +kernel), mw_X5_rule⟩, by decide +kernel⟩
theorem mw_X6_rule : Cond.instanceMethod yX6_rule ∈ gtbl ∧ Cond.selects (yX6_rule).cls yX6_rule yX6_rule ∈ gtbl ∧ Cond.initialized (yX6_rule).cls ∈ gtbl ∧ Cond.code yX6_rule cX6_rule 5 (some .int) ∈ gtbl := ⟨gx_mem 654 (by decide +kernel) (by decide +kernel), gx_mem 655 (by decide +kernel) (by decide +kernel), gx_mem 52 (by decide +kernel) (by decide +kernel), gx_mem 656 (by decide +kernel) (by decide +kernel)⟩
theorem lv_L_30 : gx_LV RL 30 6 yX6_rule cX6_rule 5 (some .int) 2 := ⟨⟨TX6, 18, rfl⟩, by decide, ⟨gx_mem 653 (by decide +kernel) (by decide +kernel), mw_X6_rule⟩, by decide +kernel⟩
theorem mw_X5_beat : Cond.instanceMethod yX5_beat ∈ gtbl ∧ Cond.selects (yX5_beat).cls yX5_beat yX5_beat ∈ gtbl ∧ Cond.initialized (yX5_beat).cls ∈ gtbl ∧ Cond.code yX5_beat cX5_beat 6 (some .int) ∈ gtbl := ⟨gx_mem 438 (by decide +kernel) (by decide +kernel), gx_mem 439 (by decide +kernel) (by decide +kernel), gx_mem 44 (by decide +kernel) (by decide +kernel), gx_mem 440 (by decide +kernel) (by decide +kernel)⟩
theorem lv_L_31 : gx_LV RL 31 5 yX5_beat cX5_beat 6 (some .int) 4 := ⟨⟨TX5, 6, rfl⟩, by decide, ⟨gx_mem 437 (by decide +kernel) (by decide +kernel), mw_X5_beat⟩, by decide +kernel⟩
theorem mw_X6_beat : Cond.instanceMethod yX6_beat ∈ gtbl ∧ Cond.selects (yX6_beat).cls yX6_beat yX6_beat ∈ gtbl ∧ Cond.initialized (yX6_beat).cls ∈ gtbl ∧ Cond.code yX6_beat cX6_beat 5 (some .int) ∈ gtbl := ⟨gx_mem 658 (by decide +kernel) (by decide +kernel), gx_mem 659 (by decide +kernel) (by decide +kernel), gx_mem 52 (by decide +kernel) (by decide +kernel), gx_mem 660 (by decide +kernel) (by decide +kernel)⟩
theorem lv_L_35 : gx_LV RL 35 6 yX6_beat cX6_beat 5 (some .int) 4 := ⟨⟨TX6, 18, rfl⟩, by decide, ⟨gx_mem 657 (by decide +kernel) (by decide +kernel), mw_X6_beat⟩, by decide +kernel⟩
theorem mw_X5_alter : Cond.instanceMethod yX5_alter ∈ gtbl ∧ Cond.selects (yX5_alter).cls yX5_alter yX5_alter ∈ gtbl ∧ Cond.initialized (yX5_alter).cls ∈ gtbl ∧ Cond.code yX5_alter cX5_alter 6 (some .int) ∈ gtbl := ⟨gx_mem 454 (by decide +kernel) (by decide +kernel), gx_mem 455 (by decide +kernel) (by decide +kernel), gx_mem 44 (by decide +kernel) (by decide +kernel), gx_mem 456 (by decide +kernel) (by decide +kernel)⟩
theorem lv_L_36 : gx_LV RL 36 5 yX5_alter cX5_alter 6 (some .int) 5 := ⟨⟨TX5, 6, rfl⟩, by decide, ⟨gx_mem 453 (by decide +kernel) (by decide +kernel), mw_X5_alter⟩, by decide +kernel⟩
theorem mw_X6_alter : Cond.instanceMethod yX6_alter ∈ gtbl ∧ Cond.selects (yX6_alter).cls yX6_alter yX6_alter ∈ gtbl ∧ Cond.initialized (yX6_alter).cls ∈ gtbl ∧ Cond.code yX6_alter cX6_alter 6 (some .int) ∈ gtbl := ⟨gx_mem 669 (by decide +kernel) (by decide +kernel), gx_mem 670 (by decide +kernel) (by decide +kernel), gx_mem 52 (by decide +kernel) (by decide +kernel), gx_mem 671 (by decide +kernel) (by decide +kernel)⟩
theorem lv_L_40 : gx_LV RL 40 6 yX6_alter cX6_alter 6 (some .int) 5 := ⟨⟨TX6, 18, rfl⟩, by decide, ⟨gx_mem 668 (by decide +kernel) (by decide +kernel), mw_X6_alter⟩, by decide +kernel⟩
theorem mw_X5_drop : Cond.instanceMethod yX5_drop ∈ gtbl ∧ Cond.selects (yX5_drop).cls yX5_drop yX5_drop ∈ gtbl ∧ Cond.initialized (yX5_drop).cls ∈ gtbl ∧ Cond.code yX5_drop cX5_drop 1 (some .int) ∈ gtbl := ⟨gx_mem 462 (by decide +kernel) (by decide +kernel), gx_mem 463 (by decide +kernel) (by decide +kernel), gx_mem 44 (by decide +kernel) (by decide +kernel), gx_mem 464 (by decide +kernel) (by decide +kernel)⟩
theorem lv_L_41 : gx_LV RL 41 5 yX5_drop cX5_drop 1 (some .int) 0 := ⟨⟨TX5, 6, rfl⟩, by decide, ⟨gx_mem 461 (by decide +kernel) (by decide +kernel), mw_X5_drop⟩, by decide +kernel⟩
theorem mw_X6_drop : Cond.instanceMethod yX6_drop ∈ gtbl ∧ Cond.selects (yX6_drop).cls yX6_drop yX6_drop ∈ gtbl ∧ Cond.initialized (yX6_drop).cls ∈ gtbl ∧ Cond.code yX6_drop cX6_drop 1 (some .int) ∈ gtbl := ⟨gx_mem 677 (by decide +kernel) (by decide +kernel), gx_mem 678 (by decide +kernel) (by decide +kernel), gx_mem 52 (by decide +kernel) (by decide +kernel), gx_mem 679 (by decide +kernel) (by decide +kernel)⟩
theorem lv_L_45 : gx_LV RL 45 6 yX6_drop cX6_drop 1 (some .int) 0 := ⟨⟨TX6, 18, rfl⟩, by decide, ⟨gx_mem 676 (by decide +kernel) (by decide +kernel), mw_X6_drop⟩, by decide +kernel⟩
theorem mw_X5_of : Cond.instanceMethod yX5_of ∈ gtbl ∧ Cond.selects (yX5_of).cls yX5_of yX5_of ∈ gtbl ∧ Cond.initialized (yX5_of).cls ∈ gtbl ∧ Cond.code yX5_of cX5_of 3 (some .int) ∈ gtbl := ⟨gx_mem 466 (by decide +kernel) (by decide +kernel), gx_mem 467 (by decide +kernel) (by decide +kernel), gx_mem 44 (by decide +kernel) (by decide +kernel), gx_mem 468 (by decide +kernel) (by decide +kernel)⟩
theorem lv_L_46 : gx_LV RL 46 5 yX5_of cX5_of 3 (some .int) 2 := ⟨⟨TX5, 6, rfl⟩, by decide, ⟨gx_mem 465 (by decide +kernel) (by decide +kernel), mw_X5_of⟩, by decide +kernel⟩
theorem mw_X6_of : Cond.instanceMethod yX6_of ∈ gtbl ∧ Cond.selects (yX6_of).cls yX6_of yX6_of ∈ gtbl ∧ Cond.initialized (yX6_of).cls ∈ gtbl ∧ Cond.code yX6_of cX6_of 3 (some .int) ∈ gtbl := ⟨gx_mem 681 (by decide +kernel) (by decide +kernel), gx_mem 682 (by decide +kernel) (by decide +kernel), gx_mem 52 (by decide +kernel) (by decide +kernel), gx_mem 683 (by decide +kernel) (by decide +kernel)⟩
theorem lv_L_49 : gx_LV RL 49 6 yX6_of cX6_of 3 (some .int) 2 := ⟨⟨TX6, 18, rfl⟩, by decide, ⟨gx_mem 680 (by decide +kernel) (by decide +kernel), mw_X6_of⟩, by decide +kernel⟩
theorem mw_X5_good : Cond.instanceMethod yX5_good ∈ gtbl ∧ Cond.selects (yX5_good).cls yX5_good yX5_good ∈ gtbl ∧ Cond.initialized (yX5_good).cls ∈ gtbl ∧ Cond.code yX5_good cX5_good 4 (some .int) ∈ gtbl := ⟨gx_mem 470 (by decide +kernel) (by decide +kernel), gx_mem 471 (by decide +kernel) (by decide +kernel), gx_mem 44 (by decide +kernel) (by decide +kernel), gx_mem 472 (by decide +kernel) (by decide +kernel)⟩
theorem lv_L_50 : gx_LV RL 50 5 yX5_good cX5_good 4 (some .int) 2 := ⟨⟨TX5, 6, rfl⟩, by decide, ⟨gx_mem 469 (by decide +kernel) (by decide +kernel), mw_X5_good⟩, by decide +kernel⟩
theorem mw_X6_good : Cond.instanceMethod yX6_good ∈ gtbl ∧ Cond.selects (yX6_good).cls yX6_good yX6_good ∈ gtbl ∧ Cond.initialized (yX6_good).cls ∈ gtbl ∧ Cond.code yX6_good cX6_good 3 (some .int) ∈ gtbl := ⟨gx_mem 685 (by decide +kernel) (by decide +kernel), gx_mem 686 (by decide +kernel) (by decide +kernel), gx_mem 52 (by decide +kernel) (by decide +kernel), gx_mem 687 (by decide +kernel) (by decide +kernel)⟩
theorem lv_L_53 : gx_LV RL 53 6 yX6_good cX6_good 3 (some .int) 2 := ⟨⟨TX6, 18, rfl⟩, by decide, ⟨gx_mem 684 (by decide +kernel) (by decide +kernel), mw_X6_good⟩, by decide +kernel⟩
theorem mw_X5_button : Cond.instanceMethod yX5_button ∈ gtbl ∧ Cond.selects (yX5_button).cls yX5_button yX5_button ∈ gtbl ∧ Cond.initialized (yX5_button).cls ∈ gtbl ∧ Cond.code yX5_button cX5_button 5 (some .int) ∈ gtbl := ⟨gx_mem 474 (by decide +kernel) (by decide +kernel), gx_mem 475 (by decide +kernel) (by decide +kernel), gx_mem 44 (by decide +kernel) (by decide +kernel), gx_mem 476 (by decide +kernel) (by decide +kernel)⟩
theorem lv_L_54 : gx_LV RL 54 5 yX5_button cX5_button 5 (some .int) 3 := ⟨⟨TX5, 6, rfl⟩, by decide, ⟨gx_mem 473 (by decide +kernel) (by decide +kernel), mw_X5_button⟩, by decide +kernel⟩
theorem mw_X6_button : Cond.instanceMethod yX6_button ∈ gtbl ∧ Cond.selects (yX6_button).cls yX6_button yX6_button ∈ gtbl ∧ Cond.initialized (yX6_button).cls ∈ gtbl ∧ Cond.code yX6_button cX6_button 4 (some .int) ∈ gtbl := ⟨gx_mem 712 (by decide +kernel) (by decide +kernel), gx_mem 713 (by decide +kernel) (by decide +kernel), gx_mem 52 (by decide +kernel) (by decide +kernel), gx_mem 714 (by decide +kernel) (by decide +kernel)⟩
theorem lv_L_58 : gx_LV RL 58 6 yX6_button cX6_button 4 (some .int) 3 := ⟨⟨TX6, 18, rfl⟩, by decide, ⟨gx_mem 711 (by decide +kernel) (by decide +kernel), mw_X6_button⟩, by decide +kernel⟩
theorem mw_X5_hand : Cond.instanceMethod yX5_hand ∈ gtbl ∧ Cond.selects (yX5_hand).cls yX5_hand yX5_hand ∈ gtbl ∧ Cond.initialized (yX5_hand).cls ∈ gtbl ∧ Cond.code yX5_hand cX5_hand 2 (some .int) ∈ gtbl := ⟨gx_mem 479 (by decide +kernel) (by decide +kernel), gx_mem 480 (by decide +kernel) (by decide +kernel), gx_mem 44 (by decide +kernel) (by decide +kernel), gx_mem 481 (by decide +kernel) (by decide +kernel)⟩
theorem lv_L_59 : gx_LV RL 59 5 yX5_hand cX5_hand 2 (some .int) 1 := ⟨⟨TX5, 6, rfl⟩, by decide, ⟨gx_mem 478 (by decide +kernel) (by decide +kernel), mw_X5_hand⟩, by decide +kernel⟩
theorem mw_X6_hand : Cond.instanceMethod yX6_hand ∈ gtbl ∧ Cond.selects (yX6_hand).cls yX6_hand yX6_hand ∈ gtbl ∧ Cond.initialized (yX6_hand).cls ∈ gtbl ∧ Cond.code yX6_hand cX6_hand 2 (some .int) ∈ gtbl := ⟨gx_mem 716 (by decide +kernel) (by decide +kernel), gx_mem 717 (by decide +kernel) (by decide +kernel), gx_mem 52 (by decide +kernel) (by decide +kernel), gx_mem 718 (by decide +kernel) (by decide +kernel)⟩
theorem lv_L_62 : gx_LV RL 62 6 yX6_hand cX6_hand 2 (some .int) 1 := ⟨⟨TX6, 18, rfl⟩, by decide, ⟨gx_mem 715 (by decide +kernel) (by decide +kernel), mw_X6_hand⟩, by decide +kernel⟩
theorem mw_X5_jumps : Cond.instanceMethod yX5_jumps ∈ gtbl ∧ Cond.selects (yX5_jumps).cls yX5_jumps yX5_jumps ∈ gtbl ∧ Cond.initialized (yX5_jumps).cls ∈ gtbl ∧ Cond.code yX5_jumps cX5_jumps 1 (some .int) ∈ gtbl := ⟨gx_mem 483 (by decide +kernel) (by decide +kernel), gx_mem 484 (by decide +kernel) (by decide +kernel), gx_mem 44 (by decide +kernel) (by decide +kernel), gx_mem 485 (by decide +kernel) (by decide +kernel)⟩
theorem lv_L_63 : gx_LV RL 63 5 yX5_jumps cX5_jumps 1 (some .int) 0 := ⟨⟨TX5, 6, rfl⟩, by decide, ⟨gx_mem 482 (by decide +kernel) (by decide +kernel), mw_X5_jumps⟩, by decide +kernel⟩
theorem mw_X6_jumps : Cond.instanceMethod yX6_jumps ∈ gtbl ∧ Cond.selects (yX6_jumps).cls yX6_jumps yX6_jumps ∈ gtbl ∧ Cond.initialized (yX6_jumps).cls ∈ gtbl ∧ Cond.code yX6_jumps cX6_jumps 1 (some .int) ∈ gtbl := ⟨gx_mem 740 (by decide +kernel) (by decide +kernel), gx_mem 741 (by decide +kernel) (by decide +kernel), gx_mem 52 (by decide +kernel) (by decide +kernel), gx_mem 742 (by decide +kernel) (by decide +kernel)⟩
theorem lv_L_66 : gx_LV RL 66 6 yX6_jumps cX6_jumps 1 (some .int) 0 := ⟨⟨TX6, 18, rfl⟩, by decide, ⟨gx_mem 739 (by decide +kernel) (by decide +kernel), mw_X6_jumps⟩, by decide +kernel⟩
theorem mw_X5_sounds : Cond.instanceMethod yX5_sounds ∈ gtbl ∧ Cond.selects (yX5_sounds).cls yX5_sounds yX5_sounds ∈ gtbl ∧ Cond.initialized (yX5_sounds).cls ∈ gtbl ∧ Cond.code yX5_sounds cX5_sounds 2 (some .int) ∈ gtbl := ⟨gx_mem 487 (by decide +kernel) (by decide +kernel), gx_mem 488 (by decide +kernel) (by decide +kernel), gx_mem 44 (by decide +kernel) (by decide +kernel), gx_mem 489 (by decide +kernel) (by decide +kernel)⟩
theorem lv_L_67 : gx_LV RL 67 5 yX5_sounds cX5_sounds 2 (some .int) 1 := ⟨⟨TX5, 6, rfl⟩, by decide, ⟨gx_mem 486 (by decide +kernel) (by decide +kernel), mw_X5_sounds⟩, by decide +kernel⟩
theorem mw_X6_sounds : Cond.instanceMethod yX6_sounds ∈ gtbl ∧ Cond.selects (yX6_sounds).cls yX6_sounds yX6_sounds ∈ gtbl ∧ Cond.initialized (yX6_sounds).cls ∈ gtbl ∧ Cond.code yX6_sounds cX6_sounds 2 (some .int) ∈ gtbl := ⟨gx_mem 744 (by decide +kernel) (by decide +kernel), gx_mem 745 (by decide +kernel) (by decide +kernel), gx_mem 52 (by decide +kernel) (by decide +kernel), gx_mem 746 (by decide +kernel) (by decide +kernel)⟩
theorem lv_L_70 : gx_LV RL 70 6 yX6_sounds cX6_sounds 2 (some .int) 1 := ⟨⟨TX6, 18, rfl⟩, by decide, ⟨gx_mem 743 (by decide +kernel) (by decide +kernel), mw_X6_sounds⟩, by decide +kernel⟩
theorem mw_X5_changed : Cond.instanceMethod yX5_changed ∈ gtbl ∧ Cond.selects (yX5_changed).cls yX5_changed yX5_changed ∈ gtbl ∧ Cond.initialized (yX5_changed).cls ∈ gtbl ∧ Cond.code yX5_changed cX5_changed 5 (some .int) ∈ gtbl := ⟨gx_mem 492 (by decide +kernel) (by decide +kernel), gx_mem 493 (by decide +kernel) (by decide +kernel), gx_mem 44 (by decide +kernel) (by decide +kernel), gx_mem 494 (by decide +kernel) (by decide +kernel)⟩
theorem lv_L_71 : gx_LV RL 71 5 yX5_changed cX5_changed 5 (some .int) 2 := ⟨⟨TX5, 6, rfl⟩, by decide, ⟨gx_mem 491 (by decide +kernel) (by decide +kernel), mw_X5_changed⟩, by decide +kernel⟩
theorem mw_X6_changed : Cond.instanceMethod yX6_changed ∈ gtbl ∧ Cond.selects (yX6_changed).cls yX6_changed yX6_changed ∈ gtbl ∧ Cond.initialized (yX6_changed).cls ∈ gtbl ∧ Cond.code yX6_changed cX6_changed 9 (some .int) ∈ gtbl := ⟨gx_mem 752 (by decide +kernel) (by decide +kernel), gx_mem 753 (by decide +kernel) (by decide +kernel), gx_mem 52 (by decide +kernel) (by decide +kernel), gx_mem 754 (by decide +kernel) (by decide +kernel)⟩
theorem lv_L_74 : gx_LV RL 74 6 yX6_changed cX6_changed 9 (some .int) 2 := ⟨⟨TX6, 18, rfl⟩, by decide, ⟨gx_mem 751 (by decide +kernel) (by decide +kernel), mw_X6_changed⟩, by decide +kernel⟩
theorem mw_X5_use : Cond.instanceMethod yX5_use ∈ gtbl ∧ Cond.selects (yX5_use).cls yX5_use yX5_use ∈ gtbl ∧ Cond.initialized (yX5_use).cls ∈ gtbl ∧ Cond.code yX5_use cX5_use 2 (some .int) ∈ gtbl := ⟨gx_mem 500 (by decide +kernel) (by decide +kernel), gx_mem 501 (by decide +kernel) (by decide +kernel), gx_mem 44 (by decide +kernel) (by decide +kernel), gx_mem 502 (by decide +kernel) (by decide +kernel)⟩
theorem lv_L_75 : gx_LV RL 75 5 yX5_use cX5_use 2 (some .int) 1 := ⟨⟨TX5, 6, rfl⟩, by decide, ⟨gx_mem 499 (by decide +kernel) (by decide +kernel), mw_X5_use⟩, by decide +kernel⟩
theorem mw_X6_use : Cond.instanceMethod yX6_use ∈ gtbl ∧ Cond.selects (yX6_use).cls yX6_use yX6_use ∈ gtbl ∧ Cond.initialized (yX6_use).cls ∈ gtbl ∧ Cond.code yX6_use cX6_use 2 (some .int) ∈ gtbl := ⟨gx_mem 760 (by decide +kernel) (by decide +kernel), gx_mem 761 (by decide +kernel) (by decide +kernel), gx_mem 52 (by decide +kernel) (by decide +kernel), gx_mem 762 (by decide +kernel) (by decide +kernel)⟩
theorem lv_L_78 : gx_LV RL 78 6 yX6_use cX6_use 2 (some .int) 1 := ⟨⟨TX6, 18, rfl⟩, by decide, ⟨gx_mem 759 (by decide +kernel) (by decide +kernel), mw_X6_use⟩, by decide +kernel⟩
theorem mw_X5_bellows : Cond.instanceMethod yX5_bellows ∈ gtbl ∧ Cond.selects (yX5_bellows).cls yX5_bellows yX5_bellows ∈ gtbl ∧ Cond.initialized (yX5_bellows).cls ∈ gtbl ∧ Cond.code yX5_bellows cX5_bellows 2 (some .int) ∈ gtbl := ⟨gx_mem 504 (by decide +kernel) (by decide +kernel), gx_mem 505 (by decide +kernel) (by decide +kernel), gx_mem 44 (by decide +kernel) (by decide +kernel), gx_mem 506 (by decide +kernel) (by decide +kernel)⟩
theorem lv_L_79 : gx_LV RL 79 5 yX5_bellows cX5_bellows 2 (some .int) 1 := ⟨⟨TX5, 6, rfl⟩, by decide, ⟨gx_mem 503 (by decide +kernel) (by decide +kernel), mw_X5_bellows⟩, by decide +kernel⟩
theorem mw_X6_bellows : Cond.instanceMethod yX6_bellows ∈ gtbl ∧ Cond.selects (yX6_bellows).cls yX6_bellows yX6_bellows ∈ gtbl ∧ Cond.initialized (yX6_bellows).cls ∈ gtbl ∧ Cond.code yX6_bellows cX6_bellows 3 (some .int) ∈ gtbl := ⟨gx_mem 768 (by decide +kernel) (by decide +kernel), gx_mem 769 (by decide +kernel) (by decide +kernel), gx_mem 52 (by decide +kernel) (by decide +kernel), gx_mem 770 (by decide +kernel) (by decide +kernel)⟩
theorem lv_L_82 : gx_LV RL 82 6 yX6_bellows cX6_bellows 3 (some .int) 1 := ⟨⟨TX6, 18, rfl⟩, by decide, ⟨gx_mem 767 (by decide +kernel) (by decide +kernel), mw_X6_bellows⟩, by decide +kernel⟩
theorem mw_X5_air : Cond.instanceMethod yX5_air ∈ gtbl ∧ Cond.selects (yX5_air).cls yX5_air yX5_air ∈ gtbl ∧ Cond.initialized (yX5_air).cls ∈ gtbl ∧ Cond.code yX5_air cX5_air 2 (some .int) ∈ gtbl := ⟨gx_mem 513 (by decide +kernel) (by decide +kernel), gx_mem 514 (by decide +kernel) (by decide +kernel), gx_mem 44 (by decide +kernel) (by decide +kernel), gx_mem 515 (by decide +kernel) (by decide +kernel)⟩
theorem lv_L_83 : gx_LV RL 83 5 yX5_air cX5_air 2 (some .int) 1 := ⟨⟨TX5, 6, rfl⟩, by decide, ⟨gx_mem 512 (by decide +kernel) (by decide +kernel), mw_X5_air⟩, by decide +kernel⟩
theorem mw_X6_air : Cond.instanceMethod yX6_air ∈ gtbl ∧ Cond.selects (yX6_air).cls yX6_air yX6_air ∈ gtbl ∧ Cond.initialized (yX6_air).cls ∈ gtbl ∧ Cond.code yX6_air cX6_air 5 (some .int) ∈ gtbl := ⟨gx_mem 784 (by decide +kernel) (by decide +kernel), gx_mem 785 (by decide +kernel) (by decide +kernel), gx_mem 52 (by decide +kernel) (by decide +kernel), gx_mem 786 (by decide +kernel) (by decide +kernel)⟩
theorem lv_L_86 : gx_LV RL 86 6 yX6_air cX6_air 5 (some .int) 1 := ⟨⟨TX6, 18, rfl⟩, by decide, ⟨gx_mem 783 (by decide +kernel) (by decide +kernel), mw_X6_air⟩, by decide +kernel⟩
theorem mw_X5_cost : Cond.instanceMethod yX5_cost ∈ gtbl ∧ Cond.selects (yX5_cost).cls yX5_cost yX5_cost ∈ gtbl ∧ Cond.initialized (yX5_cost).cls ∈ gtbl ∧ Cond.code yX5_cost cX5_cost 1 (some .int) ∈ gtbl := ⟨gx_mem 521 (by decide +kernel) (by decide +kernel), gx_mem 522 (by decide +kernel) (by decide +kernel), gx_mem 44 (by decide +kernel) (by decide +kernel), gx_mem 523 (by decide +kernel) (by decide +kernel)⟩
theorem lv_L_87 : gx_LV RL 87 5 yX5_cost cX5_cost 1 (some .int) 0 := ⟨⟨TX5, 6, rfl⟩, by decide, ⟨gx_mem 520 (by decide +kernel) (by decide +kernel), mw_X5_cost⟩, by decide +kernel⟩
theorem mw_X6_cost : Cond.instanceMethod yX6_cost ∈ gtbl ∧ Cond.selects (yX6_cost).cls yX6_cost yX6_cost ∈ gtbl ∧ Cond.initialized (yX6_cost).cls ∈ gtbl ∧ Cond.code yX6_cost cX6_cost 1 (some .int) ∈ gtbl := ⟨gx_mem 788 (by decide +kernel) (by decide +kernel), gx_mem 789 (by decide +kernel) (by decide +kernel), gx_mem 52 (by decide +kernel) (by decide +kernel), gx_mem 790 (by decide +kernel) (by decide +kernel)⟩
theorem lv_L_90 : gx_LV RL 90 6 yX6_cost cX6_cost 1 (some .int) 0 := ⟨⟨TX6, 18, rfl⟩, by decide, ⟨gx_mem 787 (by decide +kernel) (by decide +kernel), mw_X6_cost⟩, by decide +kernel⟩
theorem mw_X5_wants : Cond.instanceMethod yX5_wants ∈ gtbl ∧ Cond.selects (yX5_wants).cls yX5_wants yX5_wants ∈ gtbl ∧ Cond.initialized (yX5_wants).cls ∈ gtbl ∧ Cond.code yX5_wants cX5_wants 1 (some .int) ∈ gtbl := ⟨gx_mem 525 (by decide +kernel) (by decide +kernel), gx_mem 526 (by decide +kernel) (by decide +kernel), gx_mem 44 (by decide +kernel) (by decide +kernel), gx_mem 527 (by decide +kernel) (by decide +kernel)⟩
theorem lv_L_91 : gx_LV RL 91 5 yX5_wants cX5_wants 1 (some .int) 0 := ⟨⟨TX5, 6, rfl⟩, by decide, ⟨gx_mem 524 (by decide +kernel) (by decide +kernel), mw_X5_wants⟩, by decide +kernel⟩
theorem mw_X6_wants : Cond.instanceMethod yX6_wants ∈ gtbl ∧ Cond.selects (yX6_wants).cls yX6_wants yX6_wants ∈ gtbl ∧ Cond.initialized (yX6_wants).cls ∈ gtbl ∧ Cond.code yX6_wants cX6_wants 2 (some .int) ∈ gtbl := ⟨gx_mem 792 (by decide +kernel) (by decide +kernel), gx_mem 793 (by decide +kernel) (by decide +kernel), gx_mem 52 (by decide +kernel) (by decide +kernel), gx_mem 794 (by decide +kernel) (by decide +kernel)⟩
theorem lv_L_94 : gx_LV RL 94 6 yX6_wants cX6_wants 2 (some .int) 0 := ⟨⟨TX6, 18, rfl⟩, by decide, ⟨gx_mem 791 (by decide +kernel) (by decide +kernel), mw_X6_wants⟩, by decide +kernel⟩
theorem mw_X5_many : Cond.instanceMethod yX5_many ∈ gtbl ∧ Cond.selects (yX5_many).cls yX5_many yX5_many ∈ gtbl ∧ Cond.initialized (yX5_many).cls ∈ gtbl ∧ Cond.code yX5_many cX5_many 2 (some .int) ∈ gtbl := ⟨gx_mem 529 (by decide +kernel) (by decide +kernel), gx_mem 530 (by decide +kernel) (by decide +kernel), gx_mem 44 (by decide +kernel) (by decide +kernel), gx_mem 531 (by decide +kernel) (by decide +kernel)⟩
theorem lv_L_95 : gx_LV RL 95 5 yX5_many cX5_many 2 (some .int) 1 := ⟨⟨TX5, 6, rfl⟩, by decide, ⟨gx_mem 528 (by decide +kernel) (by decide +kernel), mw_X5_many⟩, by decide +kernel⟩
theorem mw_X6_many : Cond.instanceMethod yX6_many ∈ gtbl ∧ Cond.selects (yX6_many).cls yX6_many yX6_many ∈ gtbl ∧ Cond.initialized (yX6_many).cls ∈ gtbl ∧ Cond.code yX6_many cX6_many 2 (some .int) ∈ gtbl := ⟨gx_mem 796 (by decide +kernel) (by decide +kernel), gx_mem 797 (by decide +kernel) (by decide +kernel), gx_mem 52 (by decide +kernel) (by decide +kernel), gx_mem 798 (by decide +kernel) (by decide +kernel)⟩
theorem lv_L_98 : gx_LV RL 98 6 yX6_many cX6_many 2 (some .int) 1 := ⟨⟨TX6, 18, rfl⟩, by decide, ⟨gx_mem 795 (by decide +kernel) (by decide +kernel), mw_X6_many⟩, by decide +kernel⟩
theorem mw_X5_keep : Cond.instanceMethod yX5_keep ∈ gtbl ∧ Cond.selects (yX5_keep).cls yX5_keep yX5_keep ∈ gtbl ∧ Cond.initialized (yX5_keep).cls ∈ gtbl ∧ Cond.code yX5_keep cX5_keep 1 (some .int) ∈ gtbl := ⟨gx_mem 550 (by decide +kernel) (by decide +kernel), gx_mem 551 (by decide +kernel) (by decide +kernel), gx_mem 44 (by decide +kernel) (by decide +kernel), gx_mem 552 (by decide +kernel) (by decide +kernel)⟩
theorem lv_L_99 : gx_LV RL 99 5 yX5_keep cX5_keep 1 (some .int) 0 := ⟨⟨TX5, 6, rfl⟩, by decide, ⟨gx_mem 549 (by decide +kernel) (by decide +kernel), mw_X5_keep⟩, by decide +kernel⟩
theorem mw_X6_keep : Cond.instanceMethod yX6_keep ∈ gtbl ∧ Cond.selects (yX6_keep).cls yX6_keep yX6_keep ∈ gtbl ∧ Cond.initialized (yX6_keep).cls ∈ gtbl ∧ Cond.code yX6_keep cX6_keep 2 (some .int) ∈ gtbl := ⟨gx_mem 809 (by decide +kernel) (by decide +kernel), gx_mem 810 (by decide +kernel) (by decide +kernel), gx_mem 52 (by decide +kernel) (by decide +kernel), gx_mem 811 (by decide +kernel) (by decide +kernel)⟩
theorem lv_L_102 : gx_LV RL 102 6 yX6_keep cX6_keep 2 (some .int) 0 := ⟨⟨TX6, 18, rfl⟩, by decide, ⟨gx_mem 808 (by decide +kernel) (by decide +kernel), mw_X6_keep⟩, by decide +kernel⟩
theorem mw_X5_back : Cond.instanceMethod yX5_back ∈ gtbl ∧ Cond.selects (yX5_back).cls yX5_back yX5_back ∈ gtbl ∧ Cond.initialized (yX5_back).cls ∈ gtbl ∧ Cond.code yX5_back cX5_back 1 (some .int) ∈ gtbl := ⟨gx_mem 559 (by decide +kernel) (by decide +kernel), gx_mem 560 (by decide +kernel) (by decide +kernel), gx_mem 44 (by decide +kernel) (by decide +kernel), gx_mem 561 (by decide +kernel) (by decide +kernel)⟩
theorem lv_L_103 : gx_LV RL 103 5 yX5_back cX5_back 1 (some .int) 0 := ⟨⟨TX5, 6, rfl⟩, by decide, ⟨gx_mem 558 (by decide +kernel) (by decide +kernel), mw_X5_back⟩, by decide +kernel⟩
theorem mw_X6_back : Cond.instanceMethod yX6_back ∈ gtbl ∧ Cond.selects (yX6_back).cls yX6_back yX6_back ∈ gtbl ∧ Cond.initialized (yX6_back).cls ∈ gtbl ∧ Cond.code yX6_back cX6_back 2 (some .int) ∈ gtbl := ⟨gx_mem 813 (by decide +kernel) (by decide +kernel), gx_mem 814 (by decide +kernel) (by decide +kernel), gx_mem 52 (by decide +kernel) (by decide +kernel), gx_mem 815 (by decide +kernel) (by decide +kernel)⟩
theorem lv_L_106 : gx_LV RL 106 6 yX6_back cX6_back 2 (some .int) 0 := ⟨⟨TX6, 18, rfl⟩, by decide, ⟨gx_mem 812 (by decide +kernel) (by decide +kernel), mw_X6_back⟩, by decide +kernel⟩
theorem mw_X4_notesOf : Cond.instanceMethod yX4_notesOf ∈ gtbl ∧ Cond.selects (yX4_notesOf).cls yX4_notesOf yX4_notesOf ∈ gtbl ∧ Cond.initialized (yX4_notesOf).cls ∈ gtbl ∧ Cond.code yX4_notesOf cX4_notesOf 4 (some .int) ∈ gtbl := ⟨gx_mem 348 (by decide +kernel) (by decide +kernel), gx_mem 349 (by decide +kernel) (by decide +kernel), gx_mem 46 (by decide +kernel) (by decide +kernel), gx_mem 350 (by decide +kernel) (by decide +kernel)⟩
theorem lv_X0_40 : gx_LV RX0 40 4 yX4_notesOf cX4_notesOf 4 (some .int) 1 := ⟨⟨TX4, 5, rfl⟩, by decide, ⟨gx_mem 347 (by decide +kernel) (by decide +kernel), mw_X4_notesOf⟩, by decide +kernel⟩
theorem mw_X0_turnsWhenTied : Cond.instanceMethod yX0_turnsWhenTied ∈ gtbl ∧ Cond.selects (yX0_turnsWhenTied).cls yX0_turnsWhenTied yX0_turnsWhenTied ∈ gtbl ∧ Cond.initialized (yX0_turnsWhenTied).cls ∈ gtbl ∧ Cond.code yX0_turnsWhenTied cX0_turnsWhenTied 3 (some .boolean) ∈ gtbl := ⟨gx_mem 360 (by decide +kernel) (by decide +kernel), gx_mem 12 (by decide +kernel) (by decide +kernel), gx_mem 49 (by decide +kernel) (by decide +kernel), gx_mem 361 (by decide +kernel) (by decide +kernel)⟩
theorem lv_X0_53 : gx_LV RX0 53 0 yX0_turnsWhenTied cX0_turnsWhenTied 3 (some .boolean) 1 := ⟨⟨TX0, 6, rfl⟩, by decide, ⟨gx_mem 358 (by decide +kernel) (by decide +kernel), mw_X0_turnsWhenTied⟩, by decide +kernel⟩
theorem mw_X0_peakOf : Cond.instanceMethod yX0_peakOf ∈ gtbl ∧ Cond.selects (yX0_peakOf).cls yX0_peakOf yX0_peakOf ∈ gtbl ∧ Cond.initialized (yX0_peakOf).cls ∈ gtbl ∧ Cond.code yX0_peakOf cX0_peakOf 6 (some .int) ∈ gtbl := ⟨gx_mem 372 (by decide +kernel) (by decide +kernel), gx_mem 14 (by decide +kernel) (by decide +kernel), gx_mem 49 (by decide +kernel) (by decide +kernel), gx_mem 373 (by decide +kernel) (by decide +kernel)⟩
theorem lv_X0_57 : gx_LV RX0 57 0 yX0_peakOf cX0_peakOf 6 (some .int) 2 := ⟨⟨TX0, 6, rfl⟩, by decide, ⟨gx_mem 370 (by decide +kernel) (by decide +kernel), mw_X0_peakOf⟩, by decide +kernel⟩
theorem mw_X0_priceOf : Cond.instanceMethod yX0_priceOf ∈ gtbl ∧ Cond.selects (yX0_priceOf).cls yX0_priceOf yX0_priceOf ∈ gtbl ∧ Cond.initialized (yX0_priceOf).cls ∈ gtbl ∧ Cond.code yX0_priceOf cX0_priceOf 4 (some .int) ∈ gtbl := ⟨gx_mem 382 (by decide +kernel) (by decide +kernel), gx_mem 16 (by decide +kernel) (by decide +kernel), gx_mem 49 (by decide +kernel) (by decide +kernel), gx_mem 383 (by decide +kernel) (by decide +kernel)⟩
theorem lv_X0_69 : gx_LV RX0 69 0 yX0_priceOf cX0_priceOf 4 (some .int) 1 := ⟨⟨TX0, 6, rfl⟩, by decide, ⟨gx_mem 380 (by decide +kernel) (by decide +kernel), mw_X0_priceOf⟩, by decide +kernel⟩
theorem mw_X0_goesOut : Cond.instanceMethod yX0_goesOut ∈ gtbl ∧ Cond.selects (yX0_goesOut).cls yX0_goesOut yX0_goesOut ∈ gtbl ∧ Cond.initialized (yX0_goesOut).cls ∈ gtbl ∧ Cond.code yX0_goesOut cX0_goesOut 3 (some .boolean) ∈ gtbl := ⟨gx_mem 367 (by decide +kernel) (by decide +kernel), gx_mem 368 (by decide +kernel) (by decide +kernel), gx_mem 49 (by decide +kernel) (by decide +kernel), gx_mem 369 (by decide +kernel) (by decide +kernel)⟩
theorem lv_X0_72 : gx_LV RX0 72 0 yX0_goesOut cX0_goesOut 3 (some .boolean) 2 := ⟨⟨TX0, 6, rfl⟩, by decide, ⟨gx_mem 366 (by decide +kernel) (by decide +kernel), mw_X0_goesOut⟩, by decide +kernel⟩
theorem mw_X0_turnsAt : Cond.instanceMethod yX0_turnsAt ∈ gtbl ∧ Cond.selects (yX0_turnsAt).cls yX0_turnsAt yX0_turnsAt ∈ gtbl ∧ Cond.initialized (yX0_turnsAt).cls ∈ gtbl ∧ Cond.code yX0_turnsAt cX0_turnsAt 3 (some .boolean) ∈ gtbl := ⟨gx_mem 364 (by decide +kernel) (by decide +kernel), gx_mem 13 (by decide +kernel) (by decide +kernel), gx_mem 49 (by decide +kernel) (by decide +kernel), gx_mem 365 (by decide +kernel) (by decide +kernel)⟩
theorem lv_X0_76 : gx_LV RX0 76 0 yX0_turnsAt cX0_turnsAt 3 (some .boolean) 2 := ⟨⟨TX0, 6, rfl⟩, by decide, ⟨gx_mem 362 (by decide +kernel) (by decide +kernel), mw_X0_turnsAt⟩, by decide +kernel⟩
theorem mw_X0_airMoved : Cond.instanceMethod yX0_airMoved ∈ gtbl ∧ Cond.selects (yX0_airMoved).cls yX0_airMoved yX0_airMoved ∈ gtbl ∧ Cond.initialized (yX0_airMoved).cls ∈ gtbl ∧ Cond.code yX0_airMoved cX0_airMoved 3 (some .int) ∈ gtbl := ⟨gx_mem 376 (by decide +kernel) (by decide +kernel), gx_mem 15 (by decide +kernel) (by decide +kernel), gx_mem 49 (by decide +kernel) (by decide +kernel), gx_mem 377 (by decide +kernel) (by decide +kernel)⟩
theorem lv_X0_79 : gx_LV RX0 79 0 yX0_airMoved cX0_airMoved 3 (some .int) 2 := ⟨⟨TX0, 6, rfl⟩, by decide, ⟨gx_mem 374 (by decide +kernel) (by decide +kernel), mw_X0_airMoved⟩, by decide +kernel⟩
theorem mw_X2_write : Cond.instanceMethod yX2_write ∈ gtbl ∧ Cond.selects (yX2_write).cls yX2_write yX2_write ∈ gtbl ∧ Cond.initialized (yX2_write).cls ∈ gtbl ∧ Cond.code yX2_write cX2_write 6 none ∈ gtbl := ⟨gx_mem 445 (by decide +kernel) (by decide +kernel), gx_mem 446 (by decide +kernel) (by decide +kernel), gx_mem 45 (by decide +kernel) (by decide +kernel), gx_mem 447 (by decide +kernel) (by decide +kernel)⟩
theorem lv_X2_43 : gx_LV RX2 43 2 yX2_write cX2_write 6 none 5 := ⟨⟨TX2, 10, rfl⟩, by decide, ⟨gx_mem 557 (by decide +kernel) (by decide +kernel), mw_X2_write⟩, by decide +kernel⟩
theorem mw_X1_lowButton : Cond.instanceMethod yX1_lowButton ∈ gtbl ∧ Cond.selects (yX1_lowButton).cls yX1_lowButton yX1_lowButton ∈ gtbl ∧ Cond.initialized (yX1_lowButton).cls ∈ gtbl ∧ Cond.code yX1_lowButton cX1_lowButton 4 (some .int) ∈ gtbl := ⟨gx_mem 259 (by decide +kernel) (by decide +kernel), gx_mem 260 (by decide +kernel) (by decide +kernel), gx_mem 47 (by decide +kernel) (by decide +kernel), gx_mem 261 (by decide +kernel) (by decide +kernel)⟩
theorem lv_X3_40 : gx_LV RX3 40 1 yX1_lowButton cX1_lowButton 4 (some .int) 2 := ⟨⟨TX1, 3, rfl⟩, by decide, ⟨gx_mem 258 (by decide +kernel) (by decide +kernel), mw_X1_lowButton⟩, by decide +kernel⟩
theorem mw_X3_offer : Cond.instanceMethod yX3_offer ∈ gtbl ∧ Cond.selects (yX3_offer).cls yX3_offer yX3_offer ∈ gtbl ∧ Cond.initialized (yX3_offer).cls ∈ gtbl ∧ Cond.code yX3_offer cX3_offer 8 none ∈ gtbl := ⟨gx_mem 265 (by decide +kernel) (by decide +kernel), gx_mem 0 (by decide +kernel) (by decide +kernel), gx_mem 48 (by decide +kernel) (by decide +kernel), gx_mem 266 (by decide +kernel) (by decide +kernel)⟩
theorem lv_X3_49 : gx_LV RX3 49 3 yX3_offer cX3_offer 8 none 4 := ⟨⟨TX3, 9, rfl⟩, by decide, ⟨gx_mem 263 (by decide +kernel) (by decide +kernel), mw_X3_offer⟩, by decide +kernel⟩
theorem mw_X3_offerSingles : Cond.instanceMethod yX3_offerSingles ∈ gtbl ∧ Cond.selects (yX3_offerSingles).cls yX3_offerSingles yX3_offerSingles ∈ gtbl ∧ Cond.initialized (yX3_offerSingles).cls ∈ gtbl ∧ Cond.code yX3_offerSingles cX3_offerSingles 4 none ∈ gtbl := ⟨gx_mem 296 (by decide +kernel) (by decide +kernel), gx_mem 4 (by decide +kernel) (by decide +kernel), gx_mem 48 (by decide +kernel) (by decide +kernel), gx_mem 297 (by decide +kernel) (by decide +kernel)⟩
theorem lv_X3_53 : gx_LV RX3 53 3 yX3_offerSingles cX3_offerSingles 4 none 1 := ⟨⟨TX3, 9, rfl⟩, by decide, ⟨gx_mem 294 (by decide +kernel) (by decide +kernel), mw_X3_offerSingles⟩, by decide +kernel⟩
theorem mw_X3_offerPairs : Cond.instanceMethod yX3_offerPairs ∈ gtbl ∧ Cond.selects (yX3_offerPairs).cls yX3_offerPairs yX3_offerPairs ∈ gtbl ∧ Cond.initialized (yX3_offerPairs).cls ∈ gtbl ∧ Cond.code yX3_offerPairs cX3_offerPairs 6 none ∈ gtbl := ⟨gx_mem 300 (by decide +kernel) (by decide +kernel), gx_mem 5 (by decide +kernel) (by decide +kernel), gx_mem 48 (by decide +kernel) (by decide +kernel), gx_mem 301 (by decide +kernel) (by decide +kernel)⟩
theorem lv_X3_57 : gx_LV RX3 57 3 yX3_offerPairs cX3_offerPairs 6 none 1 := ⟨⟨TX3, 9, rfl⟩, by decide, ⟨gx_mem 298 (by decide +kernel) (by decide +kernel), mw_X3_offerPairs⟩, by decide +kernel⟩
theorem mw_X3_hasLowButton : Cond.instanceMethod yX3_hasLowButton ∈ gtbl ∧ Cond.selects (yX3_hasLowButton).cls yX3_hasLowButton yX3_hasLowButton ∈ gtbl ∧ Cond.initialized (yX3_hasLowButton).cls ∈ gtbl ∧ Cond.code yX3_hasLowButton cX3_hasLowButton 1 (some .boolean) ∈ gtbl := ⟨gx_mem 279 (by decide +kernel) (by decide +kernel), gx_mem 2 (by decide +kernel) (by decide +kernel), gx_mem 48 (by decide +kernel) (by decide +kernel), gx_mem 280 (by decide +kernel) (by decide +kernel)⟩
theorem lv_X3_60 : gx_LV RX3 60 3 yX3_hasLowButton cX3_hasLowButton 1 (some .boolean) 0 := ⟨⟨TX3, 9, rfl⟩, by decide, ⟨gx_mem 277 (by decide +kernel) (by decide +kernel), mw_X3_hasLowButton⟩, by decide +kernel⟩
theorem mw_X3_takeWithLow : Cond.instanceMethod yX3_takeWithLow ∈ gtbl ∧ Cond.selects (yX3_takeWithLow).cls yX3_takeWithLow yX3_takeWithLow ∈ gtbl ∧ Cond.initialized (yX3_takeWithLow).cls ∈ gtbl ∧ Cond.code yX3_takeWithLow cX3_takeWithLow 3 none ∈ gtbl := ⟨gx_mem 275 (by decide +kernel) (by decide +kernel), gx_mem 1 (by decide +kernel) (by decide +kernel), gx_mem 48 (by decide +kernel) (by decide +kernel), gx_mem 276 (by decide +kernel) (by decide +kernel)⟩
theorem lv_X3_77 : gx_LV RX3 77 3 yX3_takeWithLow cX3_takeWithLow 3 none 2 := ⟨⟨TX3, 9, rfl⟩, by decide, ⟨gx_mem 273 (by decide +kernel) (by decide +kernel), mw_X3_takeWithLow⟩, by decide +kernel⟩
theorem mw_X3_insert : Cond.instanceMethod yX3_insert ∈ gtbl ∧ Cond.selects (yX3_insert).cls yX3_insert yX3_insert ∈ gtbl ∧ Cond.initialized (yX3_insert).cls ∈ gtbl ∧ Cond.code yX3_insert cX3_insert 4 none ∈ gtbl := ⟨gx_mem 292 (by decide +kernel) (by decide +kernel), gx_mem 3 (by decide +kernel) (by decide +kernel), gx_mem 48 (by decide +kernel) (by decide +kernel), gx_mem 293 (by decide +kernel) (by decide +kernel)⟩
theorem lv_X3_85 : gx_LV RX3 85 3 yX3_insert cX3_insert 4 none 1 := ⟨⟨TX3, 9, rfl⟩, by decide, ⟨gx_mem 290 (by decide +kernel) (by decide +kernel), mw_X3_insert⟩, by decide +kernel⟩
theorem mw_X3_buttonAt : Cond.instanceMethod yX3_buttonAt ∈ gtbl ∧ Cond.selects (yX3_buttonAt).cls yX3_buttonAt yX3_buttonAt ∈ gtbl ∧ Cond.initialized (yX3_buttonAt).cls ∈ gtbl ∧ Cond.code yX3_buttonAt cX3_buttonAt 3 (some .int) ∈ gtbl := ⟨gx_mem 319 (by decide +kernel) (by decide +kernel), gx_mem 320 (by decide +kernel) (by decide +kernel), gx_mem 48 (by decide +kernel) (by decide +kernel), gx_mem 321 (by decide +kernel) (by decide +kernel)⟩
theorem lv_X3_97 : gx_LV RX3 97 3 yX3_buttonAt cX3_buttonAt 3 (some .int) 2 := ⟨⟨TX3, 9, rfl⟩, by decide, ⟨gx_mem 318 (by decide +kernel) (by decide +kernel), mw_X3_buttonAt⟩, by decide +kernel⟩
theorem mw_X1_tune : Cond.instanceMethod yX1_tune ∈ gtbl ∧ Cond.selects (yX1_tune).cls yX1_tune yX1_tune ∈ gtbl ∧ Cond.initialized (yX1_tune).cls ∈ gtbl ∧ Cond.code yX1_tune cX1_tune 6 none ∈ gtbl := ⟨gx_mem 243 (by decide +kernel) (by decide +kernel), gx_mem 244 (by decide +kernel) (by decide +kernel), gx_mem 47 (by decide +kernel) (by decide +kernel), gx_mem 245 (by decide +kernel) (by decide +kernel)⟩
theorem lv_X4_38 : gx_LV RX4 38 1 yX1_tune cX1_tune 6 none 2 := ⟨⟨TX1, 3, rfl⟩, by decide, ⟨gx_mem 242 (by decide +kernel) (by decide +kernel), mw_X1_tune⟩, by decide +kernel⟩
theorem mw_X3_find : Cond.instanceMethod yX3_find ∈ gtbl ∧ Cond.selects (yX3_find).cls yX3_find yX3_find ∈ gtbl ∧ Cond.initialized (yX3_find).cls ∈ gtbl ∧ Cond.code yX3_find cX3_find 4 none ∈ gtbl := ⟨gx_mem 255 (by decide +kernel) (by decide +kernel), gx_mem 256 (by decide +kernel) (by decide +kernel), gx_mem 48 (by decide +kernel) (by decide +kernel), gx_mem 257 (by decide +kernel) (by decide +kernel)⟩
theorem lv_X4_53 : gx_LV RX4 53 3 yX3_find cX3_find 4 none 3 := ⟨⟨TX3, 9, rfl⟩, by decide, ⟨gx_mem 254 (by decide +kernel) (by decide +kernel), mw_X3_find⟩, by decide +kernel⟩
theorem mw_X4_lookAhead : Cond.instanceMethod yX4_lookAhead ∈ gtbl ∧ Cond.selects (yX4_lookAhead).cls yX4_lookAhead yX4_lookAhead ∈ gtbl ∧ Cond.initialized (yX4_lookAhead).cls ∈ gtbl ∧ Cond.code yX4_lookAhead cX4_lookAhead 5 none ∈ gtbl := ⟨gx_mem 312 (by decide +kernel) (by decide +kernel), gx_mem 7 (by decide +kernel) (by decide +kernel), gx_mem 46 (by decide +kernel) (by decide +kernel), gx_mem 313 (by decide +kernel) (by decide +kernel)⟩
theorem lv_X4_57 : gx_LV RX4 57 4 yX4_lookAhead cX4_lookAhead 5 none 1 := ⟨⟨TX4, 5, rfl⟩, by decide, ⟨gx_mem 310 (by decide +kernel) (by decide +kernel), mw_X4_lookAhead⟩, by decide +kernel⟩
theorem mw_X4_firstBest : Cond.instanceMethod yX4_firstBest ∈ gtbl ∧ Cond.selects (yX4_firstBest).cls yX4_firstBest yX4_firstBest ∈ gtbl ∧ Cond.initialized (yX4_firstBest).cls ∈ gtbl ∧ Cond.code yX4_firstBest cX4_firstBest 7 (some .int) ∈ gtbl := ⟨gx_mem 333 (by decide +kernel) (by decide +kernel), gx_mem 9 (by decide +kernel) (by decide +kernel), gx_mem 46 (by decide +kernel) (by decide +kernel), gx_mem 334 (by decide +kernel) (by decide +kernel)⟩
theorem lv_X4_64 : gx_LV RX4 64 4 yX4_firstBest cX4_firstBest 7 (some .int) 2 := ⟨⟨TX4, 5, rfl⟩, by decide, ⟨gx_mem 331 (by decide +kernel) (by decide +kernel), mw_X4_firstBest⟩, by decide +kernel⟩
theorem mw_X4_jumpFromChosen : Cond.instanceMethod yX4_jumpFromChosen ∈ gtbl ∧ Cond.selects (yX4_jumpFromChosen).cls yX4_jumpFromChosen yX4_jumpFromChosen ∈ gtbl ∧ Cond.initialized (yX4_jumpFromChosen).cls ∈ gtbl ∧ Cond.code yX4_jumpFromChosen cX4_jumpFromChosen 4 (some .int) ∈ gtbl := ⟨gx_mem 337 (by decide +kernel) (by decide +kernel), gx_mem 10 (by decide +kernel) (by decide +kernel), gx_mem 46 (by decide +kernel) (by decide +kernel), gx_mem 338 (by decide +kernel) (by decide +kernel)⟩
theorem lv_X4_68 : gx_LV RX4 68 4 yX4_jumpFromChosen cX4_jumpFromChosen 4 (some .int) 3 := ⟨⟨TX4, 5, rfl⟩, by decide, ⟨gx_mem 335 (by decide +kernel) (by decide +kernel), mw_X4_jumpFromChosen⟩, by decide +kernel⟩
theorem mw_X3_placeOf : Cond.instanceMethod yX3_placeOf ∈ gtbl ∧ Cond.selects (yX3_placeOf).cls yX3_placeOf yX3_placeOf ∈ gtbl ∧ Cond.initialized (yX3_placeOf).cls ∈ gtbl ∧ Cond.code yX3_placeOf cX3_placeOf 2 (some .int) ∈ gtbl := ⟨gx_mem 315 (by decide +kernel) (by decide +kernel), gx_mem 316 (by decide +kernel) (by decide +kernel), gx_mem 48 (by decide +kernel) (by decide +kernel), gx_mem 317 (by decide +kernel) (by decide +kernel)⟩
theorem lv_X4_75 : gx_LV RX4 75 3 yX3_placeOf cX3_placeOf 2 (some .int) 1 := ⟨⟨TX3, 9, rfl⟩, by decide, ⟨gx_mem 314 (by decide +kernel) (by decide +kernel), mw_X3_placeOf⟩, by decide +kernel⟩
theorem mw_X4_fewestOnward : Cond.instanceMethod yX4_fewestOnward ∈ gtbl ∧ Cond.selects (yX4_fewestOnward).cls yX4_fewestOnward yX4_fewestOnward ∈ gtbl ∧ Cond.initialized (yX4_fewestOnward).cls ∈ gtbl ∧ Cond.code yX4_fewestOnward cX4_fewestOnward 6 (some .int) ∈ gtbl := ⟨gx_mem 324 (by decide +kernel) (by decide +kernel), gx_mem 8 (by decide +kernel) (by decide +kernel), gx_mem 46 (by decide +kernel) (by decide +kernel), gx_mem 325 (by decide +kernel) (by decide +kernel)⟩
theorem lv_X4_79 : gx_LV RX4 79 4 yX4_fewestOnward cX4_fewestOnward 6 (some .int) 2 := ⟨⟨TX4, 5, rfl⟩, by decide, ⟨gx_mem 322 (by decide +kernel) (by decide +kernel), mw_X4_fewestOnward⟩, by decide +kernel⟩
theorem lv_X4_96 : gx_LV RX4 96 3 yX3_buttonAt cX3_buttonAt 3 (some .int) 2 := ⟨⟨TX3, 9, rfl⟩, by decide, ⟨gx_mem 351 (by decide +kernel) (by decide +kernel), mw_X3_buttonAt⟩, by decide +kernel⟩
theorem mw_X4_learn : Cond.instanceMethod yX4_learn ∈ gtbl ∧ Cond.selects (yX4_learn).cls yX4_learn yX4_learn ∈ gtbl ∧ Cond.initialized (yX4_learn).cls ∈ gtbl ∧ Cond.code yX4_learn cX4_learn 5 none ∈ gtbl := ⟨gx_mem 239 (by decide +kernel) (by decide +kernel), gx_mem 240 (by decide +kernel) (by decide +kernel), gx_mem 46 (by decide +kernel) (by decide +kernel), gx_mem 241 (by decide +kernel) (by decide +kernel)⟩
theorem lv_X5_47 : gx_LV RX5 47 4 yX4_learn cX4_learn 5 none 3 := ⟨⟨TX4, 5, rfl⟩, by decide, ⟨gx_mem 238 (by decide +kernel) (by decide +kernel), mw_X4_learn⟩, by decide +kernel⟩
theorem mw_X5_settleHand : Cond.instanceMethod yX5_settleHand ∈ gtbl ∧ Cond.selects (yX5_settleHand).cls yX5_settleHand yX5_settleHand ∈ gtbl ∧ Cond.initialized (yX5_settleHand).cls ∈ gtbl ∧ Cond.code yX5_settleHand cX5_settleHand 1 none ∈ gtbl := ⟨gx_mem 304 (by decide +kernel) (by decide +kernel), gx_mem 6 (by decide +kernel) (by decide +kernel), gx_mem 44 (by decide +kernel) (by decide +kernel), gx_mem 305 (by decide +kernel) (by decide +kernel)⟩
theorem lv_X5_51 : gx_LV RX5 51 5 yX5_settleHand cX5_settleHand 1 none 0 := ⟨⟨TX5, 6, rfl⟩, by decide, ⟨gx_mem 302 (by decide +kernel) (by decide +kernel), mw_X5_settleHand⟩, by decide +kernel⟩
theorem mw_X5_setRegister : Cond.instanceMethod yX5_setRegister ∈ gtbl ∧ Cond.selects (yX5_setRegister).cls yX5_setRegister yX5_setRegister ∈ gtbl ∧ Cond.initialized (yX5_setRegister).cls ∈ gtbl ∧ Cond.code yX5_setRegister cX5_setRegister 3 (some .int) ∈ gtbl := ⟨gx_mem 427 (by decide +kernel) (by decide +kernel), gx_mem 17 (by decide +kernel) (by decide +kernel), gx_mem 44 (by decide +kernel) (by decide +kernel), gx_mem 428 (by decide +kernel) (by decide +kernel)⟩
theorem lv_X5_72 : gx_LV RX5 72 5 yX5_setRegister cX5_setRegister 3 (some .int) 1 := ⟨⟨TX5, 6, rfl⟩, by decide, ⟨gx_mem 425 (by decide +kernel) (by decide +kernel), mw_X5_setRegister⟩, by decide +kernel⟩
theorem mw_X5_setRoom : Cond.instanceMethod yX5_setRoom ∈ gtbl ∧ Cond.selects (yX5_setRoom).cls yX5_setRoom yX5_setRoom ∈ gtbl ∧ Cond.initialized (yX5_setRoom).cls ∈ gtbl ∧ Cond.code yX5_setRoom cX5_setRoom 3 (some .int) ∈ gtbl := ⟨gx_mem 431 (by decide +kernel) (by decide +kernel), gx_mem 18 (by decide +kernel) (by decide +kernel), gx_mem 44 (by decide +kernel) (by decide +kernel), gx_mem 432 (by decide +kernel) (by decide +kernel)⟩
theorem lv_X5_76 : gx_LV RX5 76 5 yX5_setRoom cX5_setRoom 3 (some .int) 1 := ⟨⟨TX5, 6, rfl⟩, by decide, ⟨gx_mem 429 (by decide +kernel) (by decide +kernel), mw_X5_setRoom⟩, by decide +kernel⟩
theorem mw_X5_setStart : Cond.instanceMethod yX5_setStart ∈ gtbl ∧ Cond.selects (yX5_setStart).cls yX5_setStart yX5_setStart ∈ gtbl ∧ Cond.initialized (yX5_setStart).cls ∈ gtbl ∧ Cond.code yX5_setStart cX5_setStart 3 (some .int) ∈ gtbl := ⟨gx_mem 435 (by decide +kernel) (by decide +kernel), gx_mem 19 (by decide +kernel) (by decide +kernel), gx_mem 44 (by decide +kernel) (by decide +kernel), gx_mem 436 (by decide +kernel) (by decide +kernel)⟩
theorem lv_X5_79 : gx_LV RX5 79 5 yX5_setStart cX5_setStart 3 (some .int) 1 := ⟨⟨TX5, 6, rfl⟩, by decide, ⟨gx_mem 433 (by decide +kernel) (by decide +kernel), mw_X5_setStart⟩, by decide +kernel⟩
theorem lv_X5_89 : gx_LV RX5 89 2 yX2_write cX2_write 6 none 5 := ⟨⟨TX2, 10, rfl⟩, by decide, ⟨gx_mem 444 (by decide +kernel) (by decide +kernel), mw_X2_write⟩, by decide +kernel⟩
theorem mw_X5_settleBeat : Cond.instanceMethod yX5_settleBeat ∈ gtbl ∧ Cond.selects (yX5_settleBeat).cls yX5_settleBeat yX5_settleBeat ∈ gtbl ∧ Cond.initialized (yX5_settleBeat).cls ∈ gtbl ∧ Cond.code yX5_settleBeat cX5_settleBeat 2 none ∈ gtbl := ⟨gx_mem 450 (by decide +kernel) (by decide +kernel), gx_mem 20 (by decide +kernel) (by decide +kernel), gx_mem 44 (by decide +kernel) (by decide +kernel), gx_mem 451 (by decide +kernel) (by decide +kernel)⟩
theorem lv_X5_93 : gx_LV RX5 93 5 yX5_settleBeat cX5_settleBeat 2 none 1 := ⟨⟨TX5, 6, rfl⟩, by decide, ⟨gx_mem 448 (by decide +kernel) (by decide +kernel), mw_X5_settleBeat⟩, by decide +kernel⟩
theorem mw_X2_has : Cond.instanceMethod yX2_has ∈ gtbl ∧ Cond.selects (yX2_has).cls yX2_has yX2_has ∈ gtbl ∧ Cond.initialized (yX2_has).cls ∈ gtbl ∧ Cond.code yX2_has cX2_has 2 (some .boolean) ∈ gtbl := ⟨gx_mem 458 (by decide +kernel) (by decide +kernel), gx_mem 459 (by decide +kernel) (by decide +kernel), gx_mem 45 (by decide +kernel) (by decide +kernel), gx_mem 460 (by decide +kernel) (by decide +kernel)⟩
theorem lv_X5_97 : gx_LV RX5 97 2 yX2_has cX2_has 2 (some .boolean) 1 := ⟨⟨TX2, 10, rfl⟩, by decide, ⟨gx_mem 457 (by decide +kernel) (by decide +kernel), mw_X2_has⟩, by decide +kernel⟩
theorem lv_X5_131 : gx_LV RX5 131 3 yX3_buttonAt cX3_buttonAt 3 (some .int) 2 := ⟨⟨TX3, 9, rfl⟩, by decide, ⟨gx_mem 477 (by decide +kernel) (by decide +kernel), mw_X3_buttonAt⟩, by decide +kernel⟩
theorem lv_X5_140 : gx_LV RX5 140 4 yX4_notesOf cX4_notesOf 4 (some .int) 1 := ⟨⟨TX4, 5, rfl⟩, by decide, ⟨gx_mem 490 (by decide +kernel) (by decide +kernel), mw_X4_notesOf⟩, by decide +kernel⟩
theorem mw_X4_choose : Cond.instanceMethod yX4_choose ∈ gtbl ∧ Cond.selects (yX4_choose).cls yX4_choose yX4_choose ∈ gtbl ∧ Cond.initialized (yX4_choose).cls ∈ gtbl ∧ Cond.code yX4_choose cX4_choose 4 none ∈ gtbl := ⟨gx_mem 307 (by decide +kernel) (by decide +kernel), gx_mem 308 (by decide +kernel) (by decide +kernel), gx_mem 46 (by decide +kernel) (by decide +kernel), gx_mem 309 (by decide +kernel) (by decide +kernel)⟩
theorem lv_X5_143 : gx_LV RX5 143 4 yX4_choose cX4_choose 4 none 1 := ⟨⟨TX4, 5, rfl⟩, by decide, ⟨gx_mem 306 (by decide +kernel) (by decide +kernel), mw_X4_choose⟩, by decide +kernel⟩
theorem mw_X4_hasSameButtons : Cond.instanceMethod yX4_hasSameButtons ∈ gtbl ∧ Cond.selects (yX4_hasSameButtons).cls yX4_hasSameButtons yX4_hasSameButtons ∈ gtbl ∧ Cond.initialized (yX4_hasSameButtons).cls ∈ gtbl ∧ Cond.code yX4_hasSameButtons cX4_hasSameButtons 3 (some .boolean) ∈ gtbl := ⟨gx_mem 496 (by decide +kernel) (by decide +kernel), gx_mem 497 (by decide +kernel) (by decide +kernel), gx_mem 46 (by decide +kernel) (by decide +kernel), gx_mem 498 (by decide +kernel) (by decide +kernel)⟩
theorem lv_X5_146 : gx_LV RX5 146 4 yX4_hasSameButtons cX4_hasSameButtons 3 (some .boolean) 2 := ⟨⟨TX4, 5, rfl⟩, by decide, ⟨gx_mem 495 (by decide +kernel) (by decide +kernel), mw_X4_hasSameButtons⟩, by decide +kernel⟩
theorem mw_X0_hasWay : Cond.instanceMethod yX0_hasWay ∈ gtbl ∧ Cond.selects (yX0_hasWay).cls yX0_hasWay yX0_hasWay ∈ gtbl ∧ Cond.initialized (yX0_hasWay).cls ∈ gtbl ∧ Cond.code yX0_hasWay cX0_hasWay 1 (some .boolean) ∈ gtbl := ⟨gx_mem 508 (by decide +kernel) (by decide +kernel), gx_mem 509 (by decide +kernel) (by decide +kernel), gx_mem 49 (by decide +kernel) (by decide +kernel), gx_mem 510 (by decide +kernel) (by decide +kernel)⟩
theorem lv_X5_153 : gx_LV RX5 153 0 yX0_hasWay cX0_hasWay 1 (some .boolean) 0 := ⟨⟨TX0, 6, rfl⟩, by decide, ⟨gx_mem 507 (by decide +kernel) (by decide +kernel), mw_X0_hasWay⟩, by decide +kernel⟩
theorem lv_X5_160 : gx_LV RX5 160 0 yX0_goesOut cX0_goesOut 3 (some .boolean) 2 := ⟨⟨TX0, 6, rfl⟩, by decide, ⟨gx_mem 511 (by decide +kernel) (by decide +kernel), mw_X0_goesOut⟩, by decide +kernel⟩
theorem mw_X0_airBehind : Cond.instanceMethod yX0_airBehind ∈ gtbl ∧ Cond.selects (yX0_airBehind).cls yX0_airBehind yX0_airBehind ∈ gtbl ∧ Cond.initialized (yX0_airBehind).cls ∈ gtbl ∧ Cond.code yX0_airBehind cX0_airBehind 5 (some .int) ∈ gtbl := ⟨gx_mem 517 (by decide +kernel) (by decide +kernel), gx_mem 518 (by decide +kernel) (by decide +kernel), gx_mem 49 (by decide +kernel) (by decide +kernel), gx_mem 519 (by decide +kernel) (by decide +kernel)⟩
theorem lv_X5_166 : gx_LV RX5 166 0 yX0_airBehind cX0_airBehind 5 (some .int) 2 := ⟨⟨TX0, 6, rfl⟩, by decide, ⟨gx_mem 516 (by decide +kernel) (by decide +kernel), mw_X0_airBehind⟩, by decide +kernel⟩
theorem mw_X4_lackOfAll : Cond.instanceMethod yX4_lackOfAll ∈ gtbl ∧ Cond.selects (yX4_lackOfAll).cls yX4_lackOfAll yX4_lackOfAll ∈ gtbl ∧ Cond.initialized (yX4_lackOfAll).cls ∈ gtbl ∧ Cond.code yX4_lackOfAll cX4_lackOfAll 4 (some .int) ∈ gtbl := ⟨gx_mem 534 (by decide +kernel) (by decide +kernel), gx_mem 535 (by decide +kernel) (by decide +kernel), gx_mem 46 (by decide +kernel) (by decide +kernel), gx_mem 536 (by decide +kernel) (by decide +kernel)⟩
theorem lv_X5_180 : gx_LV RX5 180 4 yX4_lackOfAll cX4_lackOfAll 4 (some .int) 1 := ⟨⟨TX4, 5, rfl⟩, by decide, ⟨gx_mem 533 (by decide +kernel) (by decide +kernel), mw_X4_lackOfAll⟩, by decide +kernel⟩
theorem mw_X4_extraOfAll : Cond.instanceMethod yX4_extraOfAll ∈ gtbl ∧ Cond.selects (yX4_extraOfAll).cls yX4_extraOfAll yX4_extraOfAll ∈ gtbl ∧ Cond.initialized (yX4_extraOfAll).cls ∈ gtbl ∧ Cond.code yX4_extraOfAll cX4_extraOfAll 4 (some .int) ∈ gtbl := ⟨gx_mem 538 (by decide +kernel) (by decide +kernel), gx_mem 539 (by decide +kernel) (by decide +kernel), gx_mem 46 (by decide +kernel) (by decide +kernel), gx_mem 540 (by decide +kernel) (by decide +kernel)⟩
theorem lv_X5_183 : gx_LV RX5 183 4 yX4_extraOfAll cX4_extraOfAll 4 (some .int) 1 := ⟨⟨TX4, 5, rfl⟩, by decide, ⟨gx_mem 537 (by decide +kernel) (by decide +kernel), mw_X4_extraOfAll⟩, by decide +kernel⟩
theorem mw_X4_buttonsOfAll : Cond.instanceMethod yX4_buttonsOfAll ∈ gtbl ∧ Cond.selects (yX4_buttonsOfAll).cls yX4_buttonsOfAll yX4_buttonsOfAll ∈ gtbl ∧ Cond.initialized (yX4_buttonsOfAll).cls ∈ gtbl ∧ Cond.code yX4_buttonsOfAll cX4_buttonsOfAll 4 (some .int) ∈ gtbl := ⟨gx_mem 542 (by decide +kernel) (by decide +kernel), gx_mem 543 (by decide +kernel) (by decide +kernel), gx_mem 46 (by decide +kernel) (by decide +kernel), gx_mem 544 (by decide +kernel) (by decide +kernel)⟩
theorem lv_X5_186 : gx_LV RX5 186 4 yX4_buttonsOfAll cX4_buttonsOfAll 4 (some .int) 1 := ⟨⟨TX4, 5, rfl⟩, by decide, ⟨gx_mem 541 (by decide +kernel) (by decide +kernel), mw_X4_buttonsOfAll⟩, by decide +kernel⟩
theorem mw_X0_turnsOf : Cond.instanceMethod yX0_turnsOf ∈ gtbl ∧ Cond.selects (yX0_turnsOf).cls yX0_turnsOf yX0_turnsOf ∈ gtbl ∧ Cond.initialized (yX0_turnsOf).cls ∈ gtbl ∧ Cond.code yX0_turnsOf cX0_turnsOf 4 (some .int) ∈ gtbl := ⟨gx_mem 546 (by decide +kernel) (by decide +kernel), gx_mem 547 (by decide +kernel) (by decide +kernel), gx_mem 49 (by decide +kernel) (by decide +kernel), gx_mem 548 (by decide +kernel) (by decide +kernel)⟩
theorem lv_X5_189 : gx_LV RX5 189 0 yX0_turnsOf cX0_turnsOf 4 (some .int) 1 := ⟨⟨TX0, 6, rfl⟩, by decide, ⟨gx_mem 545 (by decide +kernel) (by decide +kernel), mw_X0_turnsOf⟩, by decide +kernel⟩
theorem mw_X2_copyFrom : Cond.instanceMethod yX2_copyFrom ∈ gtbl ∧ Cond.selects (yX2_copyFrom).cls yX2_copyFrom yX2_copyFrom ∈ gtbl ∧ Cond.initialized (yX2_copyFrom).cls ∈ gtbl ∧ Cond.code yX2_copyFrom cX2_copyFrom 3 none ∈ gtbl := ⟨gx_mem 554 (by decide +kernel) (by decide +kernel), gx_mem 555 (by decide +kernel) (by decide +kernel), gx_mem 45 (by decide +kernel) (by decide +kernel), gx_mem 556 (by decide +kernel) (by decide +kernel)⟩
theorem lv_X5_192 : gx_LV RX5 192 2 yX2_copyFrom cX2_copyFrom 3 none 1 := ⟨⟨TX2, 10, rfl⟩, by decide, ⟨gx_mem 553 (by decide +kernel) (by decide +kernel), mw_X2_copyFrom⟩, by decide +kernel⟩
theorem mw_X5_settleBellows : Cond.instanceMethod yX5_settleBellows ∈ gtbl ∧ Cond.selects (yX5_settleBellows).cls yX5_settleBellows yX5_settleBellows ∈ gtbl ∧ Cond.initialized (yX5_settleBellows).cls ∈ gtbl ∧ Cond.code yX5_settleBellows cX5_settleBellows 1 none ∈ gtbl := ⟨gx_mem 341 (by decide +kernel) (by decide +kernel), gx_mem 11 (by decide +kernel) (by decide +kernel), gx_mem 44 (by decide +kernel) (by decide +kernel), gx_mem 342 (by decide +kernel) (by decide +kernel)⟩
theorem lv_X5_199 : gx_LV RX5 199 5 yX5_settleBellows cX5_settleBellows 1 none 0 := ⟨⟨TX5, 6, rfl⟩, by decide, ⟨gx_mem 339 (by decide +kernel) (by decide +kernel), mw_X5_settleBellows⟩, by decide +kernel⟩
theorem lv_X5_205 : gx_LV RX5 205 3 yX3_find cX3_find 4 none 3 := ⟨⟨TX3, 9, rfl⟩, by decide, ⟨gx_mem 452 (by decide +kernel) (by decide +kernel), mw_X3_find⟩, by decide +kernel⟩
theorem mw_X0_load : Cond.instanceMethod yX0_load ∈ gtbl ∧ Cond.selects (yX0_load).cls yX0_load yX0_load ∈ gtbl ∧ Cond.initialized (yX0_load).cls ∈ gtbl ∧ Cond.code yX0_load cX0_load 4 none ∈ gtbl := ⟨gx_mem 344 (by decide +kernel) (by decide +kernel), gx_mem 345 (by decide +kernel) (by decide +kernel), gx_mem 49 (by decide +kernel) (by decide +kernel), gx_mem 346 (by decide +kernel) (by decide +kernel)⟩
theorem lv_X5_209 : gx_LV RX5 209 0 yX0_load cX0_load 4 none 2 := ⟨⟨TX0, 6, rfl⟩, by decide, ⟨gx_mem 343 (by decide +kernel) (by decide +kernel), mw_X0_load⟩, by decide +kernel⟩
theorem mw_X0_choose : Cond.instanceMethod yX0_choose ∈ gtbl ∧ Cond.selects (yX0_choose).cls yX0_choose yX0_choose ∈ gtbl ∧ Cond.initialized (yX0_choose).cls ∈ gtbl ∧ Cond.code yX0_choose cX0_choose 6 none ∈ gtbl := ⟨gx_mem 354 (by decide +kernel) (by decide +kernel), gx_mem 355 (by decide +kernel) (by decide +kernel), gx_mem 49 (by decide +kernel) (by decide +kernel), gx_mem 356 (by decide +kernel) (by decide +kernel)⟩
theorem lv_X5_213 : gx_LV RX5 213 0 yX0_choose cX0_choose 6 none 2 := ⟨⟨TX0, 6, rfl⟩, by decide, ⟨gx_mem 353 (by decide +kernel) (by decide +kernel), mw_X0_choose⟩, by decide +kernel⟩
theorem mw_X6_rootOf : Cond.instanceMethod yX6_rootOf ∈ gtbl ∧ Cond.selects (yX6_rootOf).cls yX6_rootOf yX6_rootOf ∈ gtbl ∧ Cond.initialized (yX6_rootOf).cls ∈ gtbl ∧ Cond.code yX6_rootOf cX6_rootOf 2 (some .int) ∈ gtbl := ⟨gx_mem 647 (by decide +kernel) (by decide +kernel), gx_mem 23 (by decide +kernel) (by decide +kernel), gx_mem 52 (by decide +kernel) (by decide +kernel), gx_mem 648 (by decide +kernel) (by decide +kernel)⟩
theorem lv_X6_60 : gx_LV RX6 60 6 yX6_rootOf cX6_rootOf 2 (some .int) 1 := ⟨⟨TX6, 18, rfl⟩, by decide, ⟨gx_mem 645 (by decide +kernel) (by decide +kernel), mw_X6_rootOf⟩, by decide +kernel⟩
theorem mw_X6_isThere : Cond.instanceMethod yX6_isThere ∈ gtbl ∧ Cond.selects (yX6_isThere).cls yX6_isThere yX6_isThere ∈ gtbl ∧ Cond.initialized (yX6_isThere).cls ∈ gtbl ∧ Cond.code yX6_isThere cX6_isThere 2 (some .boolean) ∈ gtbl := ⟨gx_mem 639 (by decide +kernel) (by decide +kernel), gx_mem 21 (by decide +kernel) (by decide +kernel), gx_mem 52 (by decide +kernel) (by decide +kernel), gx_mem 640 (by decide +kernel) (by decide +kernel)⟩
theorem lv_X6_64 : gx_LV RX6 64 6 yX6_isThere cX6_isThere 2 (some .boolean) 1 := ⟨⟨TX6, 18, rfl⟩, by decide, ⟨gx_mem 637 (by decide +kernel) (by decide +kernel), mw_X6_isThere⟩, by decide +kernel⟩
theorem mw_X6_soundOf : Cond.instanceMethod yX6_soundOf ∈ gtbl ∧ Cond.selects (yX6_soundOf).cls yX6_soundOf yX6_soundOf ∈ gtbl ∧ Cond.initialized (yX6_soundOf).cls ∈ gtbl ∧ Cond.code yX6_soundOf cX6_soundOf 3 (some .int) ∈ gtbl := ⟨gx_mem 643 (by decide +kernel) (by decide +kernel), gx_mem 22 (by decide +kernel) (by decide +kernel), gx_mem 52 (by decide +kernel) (by decide +kernel), gx_mem 644 (by decide +kernel) (by decide +kernel)⟩
theorem lv_X6_68 : gx_LV RX6 68 6 yX6_soundOf cX6_soundOf 3 (some .int) 1 := ⟨⟨TX6, 18, rfl⟩, by decide, ⟨gx_mem 641 (by decide +kernel) (by decide +kernel), mw_X6_soundOf⟩, by decide +kernel⟩
theorem mw_X6_put : Cond.instanceMethod yX6_put ∈ gtbl ∧ Cond.selects (yX6_put).cls yX6_put yX6_put ∈ gtbl ∧ Cond.initialized (yX6_put).cls ∈ gtbl ∧ Cond.code yX6_put cX6_put 6 none ∈ gtbl := ⟨gx_mem 666 (by decide +kernel) (by decide +kernel), gx_mem 24 (by decide +kernel) (by decide +kernel), gx_mem 52 (by decide +kernel) (by decide +kernel), gx_mem 667 (by decide +kernel) (by decide +kernel)⟩
theorem lv_X6_75 : gx_LV RX6 75 6 yX6_put cX6_put 6 none 5 := ⟨⟨TX6, 18, rfl⟩, by decide, ⟨gx_mem 664 (by decide +kernel) (by decide +kernel), mw_X6_put⟩, by decide +kernel⟩
theorem mw_X6_isBeat : Cond.instanceMethod yX6_isBeat ∈ gtbl ∧ Cond.selects (yX6_isBeat).cls yX6_isBeat yX6_isBeat ∈ gtbl ∧ Cond.initialized (yX6_isBeat).cls ∈ gtbl ∧ Cond.code yX6_isBeat cX6_isBeat 2 (some .boolean) ∈ gtbl := ⟨gx_mem 674 (by decide +kernel) (by decide +kernel), gx_mem 25 (by decide +kernel) (by decide +kernel), gx_mem 52 (by decide +kernel) (by decide +kernel), gx_mem 675 (by decide +kernel) (by decide +kernel)⟩
theorem lv_X6_79 : gx_LV RX6 79 6 yX6_isBeat cX6_isBeat 2 (some .boolean) 1 := ⟨⟨TX6, 18, rfl⟩, by decide, ⟨gx_mem 672 (by decide +kernel) (by decide +kernel), mw_X6_isBeat⟩, by decide +kernel⟩
theorem mw_X6_press : Cond.instanceMethod yX6_press ∈ gtbl ∧ Cond.selects (yX6_press).cls yX6_press yX6_press ∈ gtbl ∧ Cond.initialized (yX6_press).cls ∈ gtbl ∧ Cond.code yX6_press cX6_press 3 none ∈ gtbl := ⟨gx_mem 702 (by decide +kernel) (by decide +kernel), gx_mem 29 (by decide +kernel) (by decide +kernel), gx_mem 52 (by decide +kernel) (by decide +kernel), gx_mem 703 (by decide +kernel) (by decide +kernel)⟩
theorem lv_X6_86 : gx_LV RX6 86 6 yX6_press cX6_press 3 none 1 := ⟨⟨TX6, 18, rfl⟩, by decide, ⟨gx_mem 700 (by decide +kernel) (by decide +kernel), mw_X6_press⟩, by decide +kernel⟩
theorem mw_X6_isAhead : Cond.instanceMethod yX6_isAhead ∈ gtbl ∧ Cond.selects (yX6_isAhead).cls yX6_isAhead yX6_isAhead ∈ gtbl ∧ Cond.initialized (yX6_isAhead).cls ∈ gtbl ∧ Cond.code yX6_isAhead cX6_isAhead 3 (some .boolean) ∈ gtbl := ⟨gx_mem 709 (by decide +kernel) (by decide +kernel), gx_mem 30 (by decide +kernel) (by decide +kernel), gx_mem 52 (by decide +kernel) (by decide +kernel), gx_mem 710 (by decide +kernel) (by decide +kernel)⟩
theorem lv_X6_93 : gx_LV RX6 93 6 yX6_isAhead cX6_isAhead 3 (some .boolean) 1 := ⟨⟨TX6, 18, rfl⟩, by decide, ⟨gx_mem 707 (by decide +kernel) (by decide +kernel), mw_X6_isAhead⟩, by decide +kernel⟩
theorem mw_X6_judge : Cond.instanceMethod yX6_judge ∈ gtbl ∧ Cond.selects (yX6_judge).cls yX6_judge yX6_judge ∈ gtbl ∧ Cond.initialized (yX6_judge).cls ∈ gtbl ∧ Cond.code yX6_judge cX6_judge 15 none ∈ gtbl := ⟨gx_mem 698 (by decide +kernel) (by decide +kernel), gx_mem 28 (by decide +kernel) (by decide +kernel), gx_mem 52 (by decide +kernel) (by decide +kernel), gx_mem 699 (by decide +kernel) (by decide +kernel)⟩
theorem lv_X6_96 : gx_LV RX6 96 6 yX6_judge cX6_judge 15 none 4 := ⟨⟨TX6, 18, rfl⟩, by decide, ⟨gx_mem 696 (by decide +kernel) (by decide +kernel), mw_X6_judge⟩, by decide +kernel⟩
theorem mw_X6_judgeAll : Cond.instanceMethod yX6_judgeAll ∈ gtbl ∧ Cond.selects (yX6_judgeAll).cls yX6_judgeAll yX6_judgeAll ∈ gtbl ∧ Cond.initialized (yX6_judgeAll).cls ∈ gtbl ∧ Cond.code yX6_judgeAll cX6_judgeAll 5 none ∈ gtbl := ⟨gx_mem 694 (by decide +kernel) (by decide +kernel), gx_mem 27 (by decide +kernel) (by decide +kernel), gx_mem 52 (by decide +kernel) (by decide +kernel), gx_mem 695 (by decide +kernel) (by decide +kernel)⟩
theorem lv_X6_100 : gx_LV RX6 100 6 yX6_judgeAll cX6_judgeAll 5 none 2 := ⟨⟨TX6, 18, rfl⟩, by decide, ⟨gx_mem 692 (by decide +kernel) (by decide +kernel), mw_X6_judgeAll⟩, by decide +kernel⟩
theorem mw_X6_findGood : Cond.instanceMethod yX6_findGood ∈ gtbl ∧ Cond.selects (yX6_findGood).cls yX6_findGood yX6_findGood ∈ gtbl ∧ Cond.initialized (yX6_findGood).cls ∈ gtbl ∧ Cond.code yX6_findGood cX6_findGood 5 none ∈ gtbl := ⟨gx_mem 690 (by decide +kernel) (by decide +kernel), gx_mem 26 (by decide +kernel) (by decide +kernel), gx_mem 52 (by decide +kernel) (by decide +kernel), gx_mem 691 (by decide +kernel) (by decide +kernel)⟩
theorem lv_X6_104 : gx_LV RX6 104 6 yX6_findGood cX6_findGood 5 none 1 := ⟨⟨TX6, 18, rfl⟩, by decide, ⟨gx_mem 688 (by decide +kernel) (by decide +kernel), mw_X6_findGood⟩, by decide +kernel⟩
theorem mw_X6_nextWith : Cond.instanceMethod yX6_nextWith ∈ gtbl ∧ Cond.selects (yX6_nextWith).cls yX6_nextWith yX6_nextWith ∈ gtbl ∧ Cond.initialized (yX6_nextWith).cls ∈ gtbl ∧ Cond.code yX6_nextWith cX6_nextWith 3 (some .int) ∈ gtbl := ⟨gx_mem 729 (by decide +kernel) (by decide +kernel), gx_mem 33 (by decide +kernel) (by decide +kernel), gx_mem 52 (by decide +kernel) (by decide +kernel), gx_mem 730 (by decide +kernel) (by decide +kernel)⟩
theorem lv_X6_107 : gx_LV RX6 107 6 yX6_nextWith cX6_nextWith 3 (some .int) 1 := ⟨⟨TX6, 18, rfl⟩, by decide, ⟨gx_mem 727 (by decide +kernel) (by decide +kernel), mw_X6_nextWith⟩, by decide +kernel⟩
theorem mw_X6_placeOf : Cond.instanceMethod yX6_placeOf ∈ gtbl ∧ Cond.selects (yX6_placeOf).cls yX6_placeOf yX6_placeOf ∈ gtbl ∧ Cond.initialized (yX6_placeOf).cls ∈ gtbl ∧ Cond.code yX6_placeOf cX6_placeOf 3 (some .int) ∈ gtbl := ⟨gx_mem 734 (by decide +kernel) (by decide +kernel), gx_mem 34 (by decide +kernel) (by decide +kernel), gx_mem 52 (by decide +kernel) (by decide +kernel), gx_mem 735 (by decide +kernel) (by decide +kernel)⟩
theorem lv_X6_111 : gx_LV RX6 111 6 yX6_placeOf cX6_placeOf 3 (some .int) 2 := ⟨⟨TX6, 18, rfl⟩, by decide, ⟨gx_mem 732 (by decide +kernel) (by decide +kernel), mw_X6_placeOf⟩, by decide +kernel⟩
theorem mw_X6_behind : Cond.instanceMethod yX6_behind ∈ gtbl ∧ Cond.selects (yX6_behind).cls yX6_behind yX6_behind ∈ gtbl ∧ Cond.initialized (yX6_behind).cls ∈ gtbl ∧ Cond.code yX6_behind cX6_behind 7 (some .int) ∈ gtbl := ⟨gx_mem 725 (by decide +kernel) (by decide +kernel), gx_mem 32 (by decide +kernel) (by decide +kernel), gx_mem 52 (by decide +kernel) (by decide +kernel), gx_mem 726 (by decide +kernel) (by decide +kernel)⟩
theorem lv_X6_118 : gx_LV RX6 118 6 yX6_behind cX6_behind 7 (some .int) 2 := ⟨⟨TX6, 18, rfl⟩, by decide, ⟨gx_mem 723 (by decide +kernel) (by decide +kernel), mw_X6_behind⟩, by decide +kernel⟩
theorem mw_X6_findHand : Cond.instanceMethod yX6_findHand ∈ gtbl ∧ Cond.selects (yX6_findHand).cls yX6_findHand yX6_findHand ∈ gtbl ∧ Cond.initialized (yX6_findHand).cls ∈ gtbl ∧ Cond.code yX6_findHand cX6_findHand 6 none ∈ gtbl := ⟨gx_mem 721 (by decide +kernel) (by decide +kernel), gx_mem 31 (by decide +kernel) (by decide +kernel), gx_mem 52 (by decide +kernel) (by decide +kernel), gx_mem 722 (by decide +kernel) (by decide +kernel)⟩
theorem lv_X6_124 : gx_LV RX6 124 6 yX6_findHand cX6_findHand 6 none 0 := ⟨⟨TX6, 18, rfl⟩, by decide, ⟨gx_mem 719 (by decide +kernel) (by decide +kernel), mw_X6_findHand⟩, by decide +kernel⟩
theorem mw_X6_heardAt : Cond.instanceMethod yX6_heardAt ∈ gtbl ∧ Cond.selects (yX6_heardAt).cls yX6_heardAt yX6_heardAt ∈ gtbl ∧ Cond.initialized (yX6_heardAt).cls ∈ gtbl ∧ Cond.code yX6_heardAt cX6_heardAt 4 (some .int) ∈ gtbl := ⟨gx_mem 749 (by decide +kernel) (by decide +kernel), gx_mem 35 (by decide +kernel) (by decide +kernel), gx_mem 52 (by decide +kernel) (by decide +kernel), gx_mem 750 (by decide +kernel) (by decide +kernel)⟩
theorem lv_X6_127 : gx_LV RX6 127 6 yX6_heardAt cX6_heardAt 4 (some .int) 1 := ⟨⟨TX6, 18, rfl⟩, by decide, ⟨gx_mem 747 (by decide +kernel) (by decide +kernel), mw_X6_heardAt⟩, by decide +kernel⟩
theorem mw_X6_buttonAt : Cond.instanceMethod yX6_buttonAt ∈ gtbl ∧ Cond.selects (yX6_buttonAt).cls yX6_buttonAt yX6_buttonAt ∈ gtbl ∧ Cond.initialized (yX6_buttonAt).cls ∈ gtbl ∧ Cond.code yX6_buttonAt cX6_buttonAt 3 (some .int) ∈ gtbl := ⟨gx_mem 757 (by decide +kernel) (by decide +kernel), gx_mem 36 (by decide +kernel) (by decide +kernel), gx_mem 52 (by decide +kernel) (by decide +kernel), gx_mem 758 (by decide +kernel) (by decide +kernel)⟩
theorem lv_X6_130 : gx_LV RX6 130 6 yX6_buttonAt cX6_buttonAt 3 (some .int) 2 := ⟨⟨TX6, 18, rfl⟩, by decide, ⟨gx_mem 755 (by decide +kernel) (by decide +kernel), mw_X6_buttonAt⟩, by decide +kernel⟩
theorem mw_X6_findUses : Cond.instanceMethod yX6_findUses ∈ gtbl ∧ Cond.selects (yX6_findUses).cls yX6_findUses yX6_findUses ∈ gtbl ∧ Cond.initialized (yX6_findUses).cls ∈ gtbl ∧ Cond.code yX6_findUses cX6_findUses 2 none ∈ gtbl := ⟨gx_mem 765 (by decide +kernel) (by decide +kernel), gx_mem 37 (by decide +kernel) (by decide +kernel), gx_mem 52 (by decide +kernel) (by decide +kernel), gx_mem 766 (by decide +kernel) (by decide +kernel)⟩
theorem lv_X6_133 : gx_LV RX6 133 6 yX6_findUses cX6_findUses 2 none 0 := ⟨⟨TX6, 18, rfl⟩, by decide, ⟨gx_mem 763 (by decide +kernel) (by decide +kernel), mw_X6_findUses⟩, by decide +kernel⟩
theorem mw_X6_costOf : Cond.instanceMethod yX6_costOf ∈ gtbl ∧ Cond.selects (yX6_costOf).cls yX6_costOf yX6_costOf ∈ gtbl ∧ Cond.initialized (yX6_costOf).cls ∈ gtbl ∧ Cond.code yX6_costOf cX6_costOf 9 (some .int) ∈ gtbl := ⟨gx_mem 777 (by decide +kernel) (by decide +kernel), gx_mem 39 (by decide +kernel) (by decide +kernel), gx_mem 52 (by decide +kernel) (by decide +kernel), gx_mem 778 (by decide +kernel) (by decide +kernel)⟩
theorem lv_X6_139 : gx_LV RX6 139 6 yX6_costOf cX6_costOf 9 (some .int) 2 := ⟨⟨TX6, 18, rfl⟩, by decide, ⟨gx_mem 775 (by decide +kernel) (by decide +kernel), mw_X6_costOf⟩, by decide +kernel⟩
theorem mw_X6_findWay : Cond.instanceMethod yX6_findWay ∈ gtbl ∧ Cond.selects (yX6_findWay).cls yX6_findWay yX6_findWay ∈ gtbl ∧ Cond.initialized (yX6_findWay).cls ∈ gtbl ∧ Cond.code yX6_findWay cX6_findWay 5 (some .int) ∈ gtbl := ⟨gx_mem 773 (by decide +kernel) (by decide +kernel), gx_mem 38 (by decide +kernel) (by decide +kernel), gx_mem 52 (by decide +kernel) (by decide +kernel), gx_mem 774 (by decide +kernel) (by decide +kernel)⟩
theorem lv_X6_142 : gx_LV RX6 142 6 yX6_findWay cX6_findWay 5 (some .int) 1 := ⟨⟨TX6, 18, rfl⟩, by decide, ⟨gx_mem 771 (by decide +kernel) (by decide +kernel), mw_X6_findWay⟩, by decide +kernel⟩
theorem mw_X6_goesOut : Cond.instanceMethod yX6_goesOut ∈ gtbl ∧ Cond.selects (yX6_goesOut).cls yX6_goesOut yX6_goesOut ∈ gtbl ∧ Cond.initialized (yX6_goesOut).cls ∈ gtbl ∧ Cond.code yX6_goesOut cX6_goesOut 3 (some .boolean) ∈ gtbl := ⟨gx_mem 781 (by decide +kernel) (by decide +kernel), gx_mem 40 (by decide +kernel) (by decide +kernel), gx_mem 52 (by decide +kernel) (by decide +kernel), gx_mem 782 (by decide +kernel) (by decide +kernel)⟩
theorem lv_X6_145 : gx_LV RX6 145 6 yX6_goesOut cX6_goesOut 3 (some .boolean) 2 := ⟨⟨TX6, 18, rfl⟩, by decide, ⟨gx_mem 779 (by decide +kernel) (by decide +kernel), mw_X6_goesOut⟩, by decide +kernel⟩
theorem lv_X6_148 : gx_LV RX6 148 6 yX6_good cX6_good 3 (some .int) 2 := ⟨⟨TX6, 18, rfl⟩, by decide, ⟨gx_mem 803 (by decide +kernel) (by decide +kernel), mw_X6_good⟩, by decide +kernel⟩
theorem mw_X6_sum : Cond.instanceMethod yX6_sum ∈ gtbl ∧ Cond.selects (yX6_sum).cls yX6_sum yX6_sum ∈ gtbl ∧ Cond.initialized (yX6_sum).cls ∈ gtbl ∧ Cond.code yX6_sum cX6_sum 4 (some .int) ∈ gtbl := ⟨gx_mem 801 (by decide +kernel) (by decide +kernel), gx_mem 41 (by decide +kernel) (by decide +kernel), gx_mem 52 (by decide +kernel) (by decide +kernel), gx_mem 802 (by decide +kernel) (by decide +kernel)⟩
theorem lv_X6_151 : gx_LV RX6 151 6 yX6_sum cX6_sum 4 (some .int) 1 := ⟨⟨TX6, 18, rfl⟩, by decide, ⟨gx_mem 799 (by decide +kernel) (by decide +kernel), mw_X6_sum⟩, by decide +kernel⟩
theorem mw_X6_turns : Cond.instanceMethod yX6_turns ∈ gtbl ∧ Cond.selects (yX6_turns).cls yX6_turns yX6_turns ∈ gtbl ∧ Cond.initialized (yX6_turns).cls ∈ gtbl ∧ Cond.code yX6_turns cX6_turns 4 (some .int) ∈ gtbl := ⟨gx_mem 806 (by decide +kernel) (by decide +kernel), gx_mem 42 (by decide +kernel) (by decide +kernel), gx_mem 52 (by decide +kernel) (by decide +kernel), gx_mem 807 (by decide +kernel) (by decide +kernel)⟩
theorem lv_X6_154 : gx_LV RX6 154 6 yX6_turns cX6_turns 4 (some .int) 0 := ⟨⟨TX6, 18, rfl⟩, by decide, ⟨gx_mem 804 (by decide +kernel) (by decide +kernel), mw_X6_turns⟩, by decide +kernel⟩
theorem mw_J6_bitCount : Cond.static yJ6_bitCount_0f7a4 ∈ gtbl ∧ Cond.initialized (yJ6_bitCount_0f7a4).cls ∈ gtbl ∧ Cond.code yJ6_bitCount_0f7a4 cJ6_bitCount_0f7a4 1 (some .int) ∈ gtbl := ⟨gx_mem 268 (by decide +kernel) (by decide +kernel), gx_mem 50 (by decide +kernel) (by decide +kernel), gx_mem 269 (by decide +kernel) (by decide +kernel)⟩
theorem ls_X0_46 : gx_LS RX0 46 yJ6_bitCount_0f7a4 cJ6_bitCount_0f7a4 1 (some .int) 1 := ⟨⟨gx_mem 352 (by decide +kernel) (by decide +kernel), mw_J6_bitCount⟩, by decide +kernel⟩
theorem mw_X1_raised : Cond.static yX1_raised ∈ gtbl ∧ Cond.initialized (yX1_raised).cls ∈ gtbl ∧ Cond.code yX1_raised cX1_raised 2 (some .int) ∈ gtbl := ⟨gx_mem 252 (by decide +kernel) (by decide +kernel), gx_mem 47 (by decide +kernel) (by decide +kernel), gx_mem 253 (by decide +kernel) (by decide +kernel)⟩
theorem ls_X1_29 : gx_LS RX1 29 yX1_raised cX1_raised 2 (some .int) 2 := ⟨⟨gx_mem 251 (by decide +kernel) (by decide +kernel), mw_X1_raised⟩, by decide +kernel⟩
theorem ls_X3_73 : gx_LS RX3 73 yJ6_bitCount_0f7a4 cJ6_bitCount_0f7a4 1 (some .int) 1 := ⟨⟨gx_mem 267 (by decide +kernel) (by decide +kernel), mw_J6_bitCount⟩, by decide +kernel⟩
theorem mw_X3_packed : Cond.static yX3_packed ∈ gtbl ∧ Cond.initialized (yX3_packed).cls ∈ gtbl ∧ Cond.code yX3_packed cX3_packed 7 (some .int) ∈ gtbl := ⟨gx_mem 282 (by decide +kernel) (by decide +kernel), gx_mem 48 (by decide +kernel) (by decide +kernel), gx_mem 283 (by decide +kernel) (by decide +kernel)⟩
theorem ls_X3_81 : gx_LS RX3 81 yX3_packed cX3_packed 7 (some .int) 3 := ⟨⟨gx_mem 281 (by decide +kernel) (by decide +kernel), mw_X3_packed⟩, by decide +kernel⟩
theorem mw_X5_isSystem : Cond.static yX5_isSystem ∈ gtbl ∧ Cond.initialized (yX5_isSystem).cls ∈ gtbl ∧ Cond.code yX5_isSystem cX5_isSystem 2 (some .boolean) ∈ gtbl := ⟨gx_mem 410 (by decide +kernel) (by decide +kernel), gx_mem 44 (by decide +kernel) (by decide +kernel), gx_mem 411 (by decide +kernel) (by decide +kernel)⟩
theorem ls_X5_54 : gx_LS RX5 54 yX5_isSystem cX5_isSystem 2 (some .boolean) 2 := ⟨⟨gx_mem 409 (by decide +kernel) (by decide +kernel), mw_X5_isSystem⟩, by decide +kernel⟩
theorem mw_X5_rootOf : Cond.static yX5_rootOf ∈ gtbl ∧ Cond.initialized (yX5_rootOf).cls ∈ gtbl ∧ Cond.code yX5_rootOf cX5_rootOf 2 (some .int) ∈ gtbl := ⟨gx_mem 249 (by decide +kernel) (by decide +kernel), gx_mem 44 (by decide +kernel) (by decide +kernel), gx_mem 250 (by decide +kernel) (by decide +kernel)⟩
theorem ls_X5_68 : gx_LS RX5 68 yX5_rootOf cX5_rootOf 2 (some .int) 2 := ⟨⟨gx_mem 420 (by decide +kernel) (by decide +kernel), mw_X5_rootOf⟩, by decide +kernel⟩
theorem mw_X5_isBeat : Cond.static yX5_isBeat ∈ gtbl ∧ Cond.initialized (yX5_isBeat).cls ∈ gtbl ∧ Cond.code yX5_isBeat cX5_isBeat 4 (some .boolean) ∈ gtbl := ⟨gx_mem 442 (by decide +kernel) (by decide +kernel), gx_mem 44 (by decide +kernel) (by decide +kernel), gx_mem 443 (by decide +kernel) (by decide +kernel)⟩
theorem ls_X5_82 : gx_LS RX5 82 yX5_isBeat cX5_isBeat 4 (some .boolean) 4 := ⟨⟨gx_mem 441 (by decide +kernel) (by decide +kernel), mw_X5_isBeat⟩, by decide +kernel⟩
theorem ls_X5_175 : gx_LS RX5 175 yJ6_bitCount_0f7a4 cJ6_bitCount_0f7a4 1 (some .int) 1 := ⟨⟨gx_mem 532 (by decide +kernel) (by decide +kernel), mw_J6_bitCount⟩, by decide +kernel⟩
theorem mw_X6_in : Cond.static yX6_in ∈ gtbl ∧ Cond.initialized (yX6_in).cls ∈ gtbl ∧ Cond.code yX6_in cX6_in 3 (some .boolean) ∈ gtbl := ⟨gx_mem 631 (by decide +kernel) (by decide +kernel), gx_mem 52 (by decide +kernel) (by decide +kernel), gx_mem 632 (by decide +kernel) (by decide +kernel)⟩
theorem ls_X6_52 : gx_LS RX6 52 yX6_in cX6_in 3 (some .boolean) 3 := ⟨⟨gx_mem 630 (by decide +kernel) (by decide +kernel), mw_X6_in⟩, by decide +kernel⟩
theorem mw_X6_isSystem : Cond.static yX6_isSystem ∈ gtbl ∧ Cond.initialized (yX6_isSystem).cls ∈ gtbl ∧ Cond.code yX6_isSystem cX6_isSystem 2 (some .boolean) ∈ gtbl := ⟨gx_mem 628 (by decide +kernel) (by decide +kernel), gx_mem 52 (by decide +kernel) (by decide +kernel), gx_mem 629 (by decide +kernel) (by decide +kernel)⟩
theorem ls_X6_56 : gx_LS RX6 56 yX6_isSystem cX6_isSystem 2 (some .boolean) 2 := ⟨⟨gx_mem 627 (by decide +kernel) (by decide +kernel), mw_X6_isSystem⟩, by decide +kernel⟩
theorem mw_X6_isTold : Cond.static yX6_isTold ∈ gtbl ∧ Cond.initialized (yX6_isTold).cls ∈ gtbl ∧ Cond.code yX6_isTold cX6_isTold 4 (some .boolean) ∈ gtbl := ⟨gx_mem 662 (by decide +kernel) (by decide +kernel), gx_mem 52 (by decide +kernel) (by decide +kernel), gx_mem 663 (by decide +kernel) (by decide +kernel)⟩
theorem ls_X6_71 : gx_LS RX6 71 yX6_isTold cX6_isTold 4 (some .boolean) 4 := ⟨⟨gx_mem 661 (by decide +kernel) (by decide +kernel), mw_X6_isTold⟩, by decide +kernel⟩
theorem mw_X6_ones : Cond.static yX6_ones ∈ gtbl ∧ Cond.initialized (yX6_ones).cls ∈ gtbl ∧ Cond.code yX6_ones cX6_ones 3 (some .int) ∈ gtbl := ⟨gx_mem 705 (by decide +kernel) (by decide +kernel), gx_mem 52 (by decide +kernel) (by decide +kernel), gx_mem 706 (by decide +kernel) (by decide +kernel)⟩
theorem ls_X6_90 : gx_LS RX6 90 yX6_ones cX6_ones 3 (some .int) 1 := ⟨⟨gx_mem 704 (by decide +kernel) (by decide +kernel), mw_X6_ones⟩, by decide +kernel⟩
theorem mw_X6_away : Cond.static yX6_away ∈ gtbl ∧ Cond.initialized (yX6_away).cls ∈ gtbl ∧ Cond.code yX6_away cX6_away 2 (some .int) ∈ gtbl := ⟨gx_mem 737 (by decide +kernel) (by decide +kernel), gx_mem 52 (by decide +kernel) (by decide +kernel), gx_mem 738 (by decide +kernel) (by decide +kernel)⟩
theorem ls_X6_115 : gx_LS RX6 115 yX6_away cX6_away 2 (some .int) 2 := ⟨⟨gx_mem 736 (by decide +kernel) (by decide +kernel), mw_X6_away⟩, by decide +kernel⟩
theorem mm_min : Cond.static Lib.Math.min.name ∈ gtbl ∧ Cond.initialized "java/lang/Math" ∈ gtbl ∧ Cond.code Lib.Math.min.name Lib.Math.min.code 2 (some .int) ∈ gtbl := ⟨gx_mem 285 (by decide +kernel) (by decide +kernel), gx_mem 51 (by decide +kernel) (by decide +kernel), gx_mem 286 (by decide +kernel) (by decide +kernel)⟩
theorem mm_max : Cond.static Lib.Math.max.name ∈ gtbl ∧ Cond.initialized "java/lang/Math" ∈ gtbl ∧ Cond.code Lib.Math.max.name Lib.Math.max.code 2 (some .int) ∈ gtbl := ⟨gx_mem 288 (by decide +kernel) (by decide +kernel), gx_mem 51 (by decide +kernel) (by decide +kernel), gx_mem 289 (by decide +kernel) (by decide +kernel)⟩
theorem mm_abs : Cond.static Lib.Math.abs.name ∈ gtbl ∧ Cond.initialized "java/lang/Math" ∈ gtbl ∧ Cond.code Lib.Math.abs.name Lib.Math.abs.code 1 (some .int) ∈ gtbl := ⟨gx_mem 328 (by decide +kernel) (by decide +kernel), gx_mem 51 (by decide +kernel) (by decide +kernel), gx_mem 329 (by decide +kernel) (by decide +kernel)⟩
theorem lm_X0_61 : Cond.methodLink RX0 61 Lib.Math.max.name ∈ gtbl := gx_mem 378 (by decide +kernel) (by decide +kernel)
theorem lm_X0_66 : Cond.methodLink RX0 66 Lib.Math.min.name ∈ gtbl := gx_mem 379 (by decide +kernel) (by decide +kernel)
theorem lm_X3_89 : Cond.methodLink RX3 89 Lib.Math.min.name ∈ gtbl := gx_mem 284 (by decide +kernel) (by decide +kernel)
theorem lm_X3_94 : Cond.methodLink RX3 94 Lib.Math.max.name ∈ gtbl := gx_mem 287 (by decide +kernel) (by decide +kernel)
theorem lm_X4_85 : Cond.methodLink RX4 85 Lib.Math.abs.name ∈ gtbl := gx_mem 327 (by decide +kernel) (by decide +kernel)
theorem lm_X4_90 : Cond.methodLink RX4 90 Lib.Math.min.name ∈ gtbl := gx_mem 330 (by decide +kernel) (by decide +kernel)
theorem lk_X0_52 : Cond.constant RX0 52 (2147483647) ∈ gtbl := gx_mem 357 (by decide +kernel) (by decide +kernel)
theorem lk_X3_48 : Cond.constant RX3 48 (2147483647) ∈ gtbl := gx_mem 262 (by decide +kernel) (by decide +kernel)
theorem lk_X4_84 : Cond.constant RX4 84 (2147483647) ∈ gtbl := gx_mem 326 (by decide +kernel) (by decide +kernel)
theorem lk_X6_110 : Cond.constant RX6 110 (1000000) ∈ gtbl := gx_mem 731 (by decide +kernel) (by decide +kernel)
theorem lk_J6_265 : Cond.constant RJ6 265 (1431655765) ∈ gtbl := gx_mem 270 (by decide +kernel) (by decide +kernel)
theorem lk_J6_266 : Cond.constant RJ6 266 (858993459) ∈ gtbl := gx_mem 271 (by decide +kernel) (by decide +kernel)
theorem lk_J6_267 : Cond.constant RJ6 267 (252645135) ∈ gtbl := gx_mem 272 (by decide +kernel) (by decide +kernel)
theorem mw_root : Cond.initialized RX5 ∈ gtbl ∧ Cond.static yX5_rootOf ∈ gtbl ∧ Cond.code yX5_rootOf cX5_rootOf 2 (some .int) ∈ gtbl := ⟨gx_mem 44 (by decide +kernel) (by decide +kernel), gx_mem 249 (by decide +kernel) (by decide +kernel), gx_mem 250 (by decide +kernel) (by decide +kernel)⟩
end
section

def zI (z : Int) : Int32 := Int32.ofInt z
abbrev zJ : Type := Nat → Nat → Int
def zh (J : zJ) : gx_I := fun a k => zI (J a k)
def zup (J : zJ) (a k : Nat) (x : Int) : zJ := fun a' k' => if a' = a ∧ k' = k then x else J a' k'
theorem zup_self (J : zJ) (a k : Nat) (x : Int) : zup J a k x a k = x := by simp [zup]
theorem zup_ne {J : zJ} {a k a' k' : Nat} {x : Int} (h : ¬ (a' = a ∧ k' = k)) : zup J a k x a' k' = J a' k' := by simp only [zup, if_neg h]
theorem zh_up (J : zJ) (a k : Nat) (x : Int) : gx_up (zh J) a k (zI x) = zh (zup J a k x) := by
  funext a' k'
  unfold gx_up zh zup
  by_cases h : a' = a ∧ k' = k
  · rw [if_pos h, if_pos h]
  · rw [if_neg h, if_neg h]
abbrev zB (z : Int) : Prop := -2147483648 ≤ z ∧ z < 2147483648
theorem zI_self (x : Int32) : zI x.toInt = x := Int32.ofInt_toInt x
theorem zI_toInt {z : Int} (h : zB z) : (zI z).toInt = z := Int32.toInt_ofInt_of_le (by have := h.1; simpa using this) (by have := h.2; simpa using this)
theorem zB_toInt (x : Int32) : zB x.toInt := ⟨by have := x.le_toInt; simpa using this, by have := x.toInt_lt; simpa using this⟩
theorem zI_of (x : Int32) : ∃ z, zB z ∧ x = zI z := ⟨x.toInt, zB_toInt x, (zI_self x).symm⟩
theorem zI_inj {a b : Int} (ha : zB a) (hb : zB b) : zI a = zI b ↔ a = b := by
  rw [← Int32.toInt_inj, zI_toInt ha, zI_toInt hb]
theorem zI_lt {a b : Int} (ha : zB a) (hb : zB b) : zI a < zI b ↔ a < b := by
  rw [Int32.lt_iff_toInt_lt, zI_toInt ha, zI_toInt hb]
theorem zI_le {a b : Int} (ha : zB a) (hb : zB b) : zI a ≤ zI b ↔ a ≤ b := by
  rw [Int32.le_iff_toInt_le, zI_toInt ha, zI_toInt hb]
theorem zI_add (a b : Int) : zI a + zI b = zI (a + b) := (Int32.ofInt_add a b).symm
theorem zI_sub (a b : Int) : zI a - zI b = zI (a - b) := (Int32.ofInt_sub a b).symm
theorem zI_mul (a b : Int) : zI a * zI b = zI (a * b) := (Int32.ofInt_mul a b).symm
theorem zI_neg (a : Int) : - zI a = zI (- a) := (Int32.ofInt_neg a).symm
theorem zI_nat (n : Nat) : zI (n : Int) = nI n := by
  unfold zI nI
  first | exact Int32.ofInt_eq_ofNat | rfl | (apply Int32.toBitVec_inj.mp; simp)
theorem zI_clamp {z : Int} {j : Nat} (h : z = (j : Int)) (hj : j < 2 ^ 31) : (zI z).toNatClampNeg = j := by rw [h, zI_nat, nI_clamp hj]
theorem zI_in {z : Int} {j n : Nat} (h : z = (j : Int)) (hj : j < n) (hn : n < 2 ^ 31) : vp_in (zI z) n := by rw [h, zI_nat]; exact vp_in_nI hj hn
def zand (a b : Int) : Int := (zI a &&& zI b).toInt
def zor (a b : Int) : Int := (zI a ||| zI b).toInt
def zxor (a b : Int) : Int := (zI a ^^^ zI b).toInt
def zshl (a b : Int) : Int := (zI a <<< (zI b &&& 31)).toInt
def zshr (a b : Int) : Int := (zI a >>> (zI b &&& 31)).toInt
def zdiv (a b : Int) : Int := (zI a / zI b).toInt
def zrem (a b : Int) : Int := (zI a - zI a / zI b * zI b).toInt
def zushr (a b : Int) : Int := ((zI a).toUInt32 >>> ((zI b).toUInt32 &&& Int32.toUInt32 31)).toInt32.toInt
theorem zB_lit0 : zB 0 := by decide
section GZ
variable {G : gx_G} {X : gx_X} {own : String} {cc : ByteArray} {nL lo : Nat} {rm : Room} {J : zJ} {pc : Nat} {lv : List (Nat × Value)} {st : List Value}

theorem z_iconst {n : Int} (B : gx_B G X own cc nL rm lo) (hd : decode cc pc = .ok (.iconst n, 1)) (kk : gx_WG G X nL (zh J) (pc + 1) lv (.int (zI n) :: st)) : gx_WG G X nL (zh J) pc lv st :=
  gx_iconst B hd rfl kk

theorem z_bipush {n : Int} (B : gx_B G X own cc nL rm lo) (hd : decode cc pc = .ok (.bipush n, 2)) (hv : (Int8.ofInt n).toInt32 = zI n) (kk : gx_WG G X nL (zh J) (pc + 2) lv (.int (zI n) :: st)) : gx_WG G X nL (zh J) pc lv st :=
  gx_bipush B hd hv kk

theorem z_sipush {n : Int} (B : gx_B G X own cc nL rm lo) (hd : decode cc pc = .ok (.sipush n, 3)) (hv : (Int16.ofInt n).toInt32 = zI n) (kk : gx_WG G X nL (zh J) (pc + 3) lv (.int (zI n) :: st)) : gx_WG G X nL (zh J) pc lv st :=
  gx_sipush B hd hv kk

theorem z_ldc {n : Nat} {v : Int32} (z : Int) (B : gx_B G X own cc nL rm lo) (hd : decode cc pc = .ok (.ldc n, 2)) (hv : Cond.constant own n v ∈ gtbl) (hz : v = zI z) (kk : gx_WG G X nL (zh J) (pc + 2) lv (.int (zI z) :: st)) : gx_WG G X nL (zh J) pc lv st :=
  gx_ldc B hd hv (hz ▸ kk)

theorem z_istore_n {k : Fin 4} {i : Nat} {x : Int} (lv1 : Int → List (Nat × Value)) (B : gx_B G X own cc nL rm lo) (hd : decode cc pc = .ok (.istore_n k, 1)) (hi : (k : Nat) = i) (hn : i < nL) (hw : gx_wf lv 0 = true) (hs : ∀ v : Int, gx_ls lv i (.int (zI v)) = lv1 v) (kk : ∀ v : Int, v = x → gx_WG G X nL (zh J) (pc + 1) (lv1 v) st) : gx_WG G X nL (zh J) pc lv (.int (zI x) :: st) :=
  gx_istore_n (fun w => gx_ls lv i (.int w)) B hd hi hn hw (fun _ => rfl) (fun w hw0 => by subst hw0; show gx_WG G X nL (zh J) (pc + 1) (gx_ls lv i (.int (zI x))) st; rw [hs]; exact kk x rfl)

theorem z_istore {i : Nat} {x : Int} (lv1 : Int → List (Nat × Value)) (B : gx_B G X own cc nL rm lo) (hd : decode cc pc = .ok (.istore i, 2)) (hn : i < nL) (hw : gx_wf lv 0 = true) (hs : ∀ v : Int, gx_ls lv i (.int (zI v)) = lv1 v) (kk : ∀ v : Int, v = x → gx_WG G X nL (zh J) (pc + 2) (lv1 v) st) : gx_WG G X nL (zh J) pc lv (.int (zI x) :: st) :=
  gx_istore (fun w => gx_ls lv i (.int w)) B hd hn hw (fun _ => rfl) (fun w hw0 => by subst hw0; show gx_WG G X nL (zh J) (pc + 2) (gx_ls lv i (.int (zI x))) st; rw [hs]; exact kk x rfl)

theorem z_iinc {i : Nat} {n x : Int} (lv1 : Int → List (Nat × Value)) (B : gx_B G X own cc nL rm lo) (hd : decode cc pc = .ok (.iinc i n, 3)) (hg : gx_lg lv i = some (.int (zI x))) (hn : i < nL) (hw : gx_wf lv 0 = true) (hs : ∀ v : Int, gx_ls lv i (.int (zI v)) = lv1 v) (kk : ∀ v : Int, v = x + n → gx_WG G X nL (zh J) (pc + 3) (lv1 v) st) : gx_WG G X nL (zh J) pc lv st :=
  gx_iinc (zI n) (fun w => gx_ls lv i (.int w)) B hd rfl hg hn hw (fun _ => rfl) (fun w hw0 => by subst hw0; show gx_WG G X nL (zh J) (pc + 3) (gx_ls lv i (.int (zI x + zI n))) st; rw [zI_add, hs]; exact kk _ rfl)

theorem z_iadd {x y : Int} (B : gx_B G X own cc nL rm lo) (hd : decode cc pc = .ok (.iadd, 1)) (kk : gx_WG G X nL (zh J) (pc + 1) lv (.int (zI (x + y)) :: st)) : gx_WG G X nL (zh J) pc lv (.int (zI y) :: .int (zI x) :: st) :=
  gx_iadd B hd (by rw [zI_add x y]; exact kk)

theorem z_isub {x y : Int} (B : gx_B G X own cc nL rm lo) (hd : decode cc pc = .ok (.isub, 1)) (kk : gx_WG G X nL (zh J) (pc + 1) lv (.int (zI (x - y)) :: st)) : gx_WG G X nL (zh J) pc lv (.int (zI y) :: .int (zI x) :: st) :=
  gx_isub B hd (by rw [zI_sub x y]; exact kk)

theorem z_imul {x y : Int} (B : gx_B G X own cc nL rm lo) (hd : decode cc pc = .ok (.imul, 1)) (kk : gx_WG G X nL (zh J) (pc + 1) lv (.int (zI (x * y)) :: st)) : gx_WG G X nL (zh J) pc lv (.int (zI y) :: .int (zI x) :: st) :=
  gx_imul B hd (by rw [zI_mul x y]; exact kk)

theorem z_iand {x y : Int} (B : gx_B G X own cc nL rm lo) (hd : decode cc pc = .ok (.iand, 1)) (kk : gx_WG G X nL (zh J) (pc + 1) lv (.int (zI (zand x y)) :: st)) : gx_WG G X nL (zh J) pc lv (.int (zI y) :: .int (zI x) :: st) :=
  gx_iand B hd (by have e := zI_self (zI x &&& zI y); rw [← e]; exact kk)

theorem z_ior {x y : Int} (B : gx_B G X own cc nL rm lo) (hd : decode cc pc = .ok (.ior, 1)) (kk : gx_WG G X nL (zh J) (pc + 1) lv (.int (zI (zor x y)) :: st)) : gx_WG G X nL (zh J) pc lv (.int (zI y) :: .int (zI x) :: st) :=
  gx_ior B hd (by have e := zI_self (zI x ||| zI y); rw [← e]; exact kk)

theorem z_ixor {x y : Int} (B : gx_B G X own cc nL rm lo) (hd : decode cc pc = .ok (.ixor, 1)) (kk : gx_WG G X nL (zh J) (pc + 1) lv (.int (zI (zxor x y)) :: st)) : gx_WG G X nL (zh J) pc lv (.int (zI y) :: .int (zI x) :: st) :=
  gx_ixor B hd (by have e := zI_self (zI x ^^^ zI y); rw [← e]; exact kk)

theorem z_ishl {x y : Int} (B : gx_B G X own cc nL rm lo) (hd : decode cc pc = .ok (.ishl, 1)) (kk : gx_WG G X nL (zh J) (pc + 1) lv (.int (zI (zshl x y)) :: st)) : gx_WG G X nL (zh J) pc lv (.int (zI y) :: .int (zI x) :: st) :=
  gx_ishl B hd (by have e := zI_self (zI x <<< (zI y &&& 31)); rw [← e]; exact kk)

theorem z_ishr {x y : Int} (B : gx_B G X own cc nL rm lo) (hd : decode cc pc = .ok (.ishr, 1)) (kk : gx_WG G X nL (zh J) (pc + 1) lv (.int (zI (zshr x y)) :: st)) : gx_WG G X nL (zh J) pc lv (.int (zI y) :: .int (zI x) :: st) :=
  gx_ishr B hd (by have e := zI_self (zI x >>> (zI y &&& 31)); rw [← e]; exact kk)

theorem z_idiv {x y : Int} (B : gx_B G X own cc nL rm lo) (hd : decode cc pc = .ok (.idiv, 1)) (hne : ¬ zI y = 0) (kk : gx_WG G X nL (zh J) (pc + 1) lv (.int (zI (zdiv x y)) :: st)) : gx_WG G X nL (zh J) pc lv (.int (zI y) :: .int (zI x) :: st) :=
  gx_idiv B hd hne (by have e := zI_self (zI x / zI y); rw [← e]; exact kk)

theorem z_irem {x y : Int} (B : gx_B G X own cc nL rm lo) (hd : decode cc pc = .ok (.irem, 1)) (hne : ¬ zI y = 0) (kk : gx_WG G X nL (zh J) (pc + 1) lv (.int (zI (zrem x y)) :: st)) : gx_WG G X nL (zh J) pc lv (.int (zI y) :: .int (zI x) :: st) :=
  gx_irem B hd hne (by have e := zI_self (zI x - zI x / zI y * zI y); rw [← e]; exact kk)

theorem z_iushr {x y : Int} (B : gx_B G X own cc nL rm lo) (hd : decode cc pc = .ok (.iushr, 1)) (kk : gx_WG G X nL (zh J) (pc + 1) lv (.int (zI (zushr x y)) :: st)) : gx_WG G X nL (zh J) pc lv (.int (zI y) :: .int (zI x) :: st) :=
  gx_iushr B hd (by have e := zI_self ((zI x).toUInt32 >>> ((zI y).toUInt32 &&& Int32.toUInt32 31)).toInt32; rw [← e]; exact kk)

theorem z_ineg {x : Int} (B : gx_B G X own cc nL rm lo) (hd : decode cc pc = .ok (.ineg, 1)) (kk : gx_WG G X nL (zh J) (pc + 1) lv (.int (zI (-x)) :: st)) : gx_WG G X nL (zh J) pc lv (.int (zI x) :: st) :=
  gx_ineg B hd (by rw [zI_neg]; exact kk)

theorem z_icmp_eq {x y off : Int} {tgt : Nat} (B : gx_B G X own cc nL rm lo) (hd : decode cc pc = .ok (.if_icmp .eq off, 3)) (hx : zB x) (hy : zB y) (ht : (pc : Int) + off = (tgt : Int)) (kt : x = y → gx_WG G X nL (zh J) (tgt) lv st) (kf : ¬ x = y → gx_WG G X nL (zh J) (pc + 3) lv st) : gx_WG G X nL (zh J) pc lv (.int (zI y) :: .int (zI x) :: st) :=
  gx_icmp_eq B hd ht (fun h => kt (by first | exact (zI_lt hx hy).mp h | exact (zI_lt hy hx).mp h | exact (zI_le hx hy).mp h | exact (zI_le hy hx).mp h | exact (zI_inj hx hy).mp h | exact (fun q => h ((zI_inj hx hy).mpr q)))) (fun h => kf (by first | exact Int.not_lt.mp (fun q => h ((zI_lt hx hy).mpr q)) | exact Int.not_lt.mp (fun q => h ((zI_lt hy hx).mpr q)) | exact Int.not_le.mp (fun q => h ((zI_le hx hy).mpr q)) | exact Int.not_le.mp (fun q => h ((zI_le hy hx).mpr q)) | exact (fun q => h ((zI_inj hx hy).mpr q)) | exact Decidable.byContradiction (fun q => h (fun e => q ((zI_inj hx hy).mp e))) | exact (zI_inj hx hy).mp h))

theorem z_if_eq {x off : Int} {tgt : Nat} (B : gx_B G X own cc nL rm lo) (hd : decode cc pc = .ok (.ifCond .eq off, 3)) (hx : zB x) (ht : (pc : Int) + off = (tgt : Int)) (kt : x = 0 → gx_WG G X nL (zh J) (tgt) lv st) (kf : ¬ x = 0 → gx_WG G X nL (zh J) (pc + 3) lv st) : gx_WG G X nL (zh J) pc lv (.int (zI x) :: st) :=
  gx_if_eq B hd ht (fun h => kt (by first | exact (zI_lt hx zB_lit0).mp h | exact (zI_lt zB_lit0 hx).mp h | exact (zI_le hx zB_lit0).mp h | exact (zI_le zB_lit0 hx).mp h | exact (zI_inj hx zB_lit0).mp h | exact (fun q => h ((zI_inj hx zB_lit0).mpr q)))) (fun h => kf (by first | exact Int.not_lt.mp (fun q => h ((zI_lt hx zB_lit0).mpr q)) | exact Int.not_lt.mp (fun q => h ((zI_lt zB_lit0 hx).mpr q)) | exact Int.not_le.mp (fun q => h ((zI_le hx zB_lit0).mpr q)) | exact Int.not_le.mp (fun q => h ((zI_le zB_lit0 hx).mpr q)) | exact (fun q => h ((zI_inj hx zB_lit0).mpr q)) | exact Decidable.byContradiction (fun q => h (fun e => q ((zI_inj hx zB_lit0).mp e))) | exact (zI_inj hx zB_lit0).mp h))

theorem z_icmp_ne {x y off : Int} {tgt : Nat} (B : gx_B G X own cc nL rm lo) (hd : decode cc pc = .ok (.if_icmp .ne off, 3)) (hx : zB x) (hy : zB y) (ht : (pc : Int) + off = (tgt : Int)) (kt : ¬ x = y → gx_WG G X nL (zh J) (tgt) lv st) (kf : x = y → gx_WG G X nL (zh J) (pc + 3) lv st) : gx_WG G X nL (zh J) pc lv (.int (zI y) :: .int (zI x) :: st) :=
  gx_icmp_ne B hd ht (fun h => kt (by first | exact (zI_lt hx hy).mp h | exact (zI_lt hy hx).mp h | exact (zI_le hx hy).mp h | exact (zI_le hy hx).mp h | exact (zI_inj hx hy).mp h | exact (fun q => h ((zI_inj hx hy).mpr q)))) (fun h => kf (by first | exact Int.not_lt.mp (fun q => h ((zI_lt hx hy).mpr q)) | exact Int.not_lt.mp (fun q => h ((zI_lt hy hx).mpr q)) | exact Int.not_le.mp (fun q => h ((zI_le hx hy).mpr q)) | exact Int.not_le.mp (fun q => h ((zI_le hy hx).mpr q)) | exact (fun q => h ((zI_inj hx hy).mpr q)) | exact Decidable.byContradiction (fun q => h (fun e => q ((zI_inj hx hy).mp e))) | exact (zI_inj hx hy).mp h))

theorem z_if_ne {x off : Int} {tgt : Nat} (B : gx_B G X own cc nL rm lo) (hd : decode cc pc = .ok (.ifCond .ne off, 3)) (hx : zB x) (ht : (pc : Int) + off = (tgt : Int)) (kt : ¬ x = 0 → gx_WG G X nL (zh J) (tgt) lv st) (kf : x = 0 → gx_WG G X nL (zh J) (pc + 3) lv st) : gx_WG G X nL (zh J) pc lv (.int (zI x) :: st) :=
  gx_if_ne B hd ht (fun h => kt (by first | exact (zI_lt hx zB_lit0).mp h | exact (zI_lt zB_lit0 hx).mp h | exact (zI_le hx zB_lit0).mp h | exact (zI_le zB_lit0 hx).mp h | exact (zI_inj hx zB_lit0).mp h | exact (fun q => h ((zI_inj hx zB_lit0).mpr q)))) (fun h => kf (by first | exact Int.not_lt.mp (fun q => h ((zI_lt hx zB_lit0).mpr q)) | exact Int.not_lt.mp (fun q => h ((zI_lt zB_lit0 hx).mpr q)) | exact Int.not_le.mp (fun q => h ((zI_le hx zB_lit0).mpr q)) | exact Int.not_le.mp (fun q => h ((zI_le zB_lit0 hx).mpr q)) | exact (fun q => h ((zI_inj hx zB_lit0).mpr q)) | exact Decidable.byContradiction (fun q => h (fun e => q ((zI_inj hx zB_lit0).mp e))) | exact (zI_inj hx zB_lit0).mp h))

theorem z_icmp_lt {x y off : Int} {tgt : Nat} (B : gx_B G X own cc nL rm lo) (hd : decode cc pc = .ok (.if_icmp .lt off, 3)) (hx : zB x) (hy : zB y) (ht : (pc : Int) + off = (tgt : Int)) (kt : x < y → gx_WG G X nL (zh J) (tgt) lv st) (kf : y ≤ x → gx_WG G X nL (zh J) (pc + 3) lv st) : gx_WG G X nL (zh J) pc lv (.int (zI y) :: .int (zI x) :: st) :=
  gx_icmp_lt B hd ht (fun h => kt (by first | exact (zI_lt hx hy).mp h | exact (zI_lt hy hx).mp h | exact (zI_le hx hy).mp h | exact (zI_le hy hx).mp h | exact (zI_inj hx hy).mp h | exact (fun q => h ((zI_inj hx hy).mpr q)))) (fun h => kf (by first | exact Int.not_lt.mp (fun q => h ((zI_lt hx hy).mpr q)) | exact Int.not_lt.mp (fun q => h ((zI_lt hy hx).mpr q)) | exact Int.not_le.mp (fun q => h ((zI_le hx hy).mpr q)) | exact Int.not_le.mp (fun q => h ((zI_le hy hx).mpr q)) | exact (fun q => h ((zI_inj hx hy).mpr q)) | exact Decidable.byContradiction (fun q => h (fun e => q ((zI_inj hx hy).mp e))) | exact (zI_inj hx hy).mp h))

theorem z_if_lt {x off : Int} {tgt : Nat} (B : gx_B G X own cc nL rm lo) (hd : decode cc pc = .ok (.ifCond .lt off, 3)) (hx : zB x) (ht : (pc : Int) + off = (tgt : Int)) (kt : x < 0 → gx_WG G X nL (zh J) (tgt) lv st) (kf : 0 ≤ x → gx_WG G X nL (zh J) (pc + 3) lv st) : gx_WG G X nL (zh J) pc lv (.int (zI x) :: st) :=
  gx_if_lt B hd ht (fun h => kt (by first | exact (zI_lt hx zB_lit0).mp h | exact (zI_lt zB_lit0 hx).mp h | exact (zI_le hx zB_lit0).mp h | exact (zI_le zB_lit0 hx).mp h | exact (zI_inj hx zB_lit0).mp h | exact (fun q => h ((zI_inj hx zB_lit0).mpr q)))) (fun h => kf (by first | exact Int.not_lt.mp (fun q => h ((zI_lt hx zB_lit0).mpr q)) | exact Int.not_lt.mp (fun q => h ((zI_lt zB_lit0 hx).mpr q)) | exact Int.not_le.mp (fun q => h ((zI_le hx zB_lit0).mpr q)) | exact Int.not_le.mp (fun q => h ((zI_le zB_lit0 hx).mpr q)) | exact (fun q => h ((zI_inj hx zB_lit0).mpr q)) | exact Decidable.byContradiction (fun q => h (fun e => q ((zI_inj hx zB_lit0).mp e))) | exact (zI_inj hx zB_lit0).mp h))

theorem z_icmp_ge {x y off : Int} {tgt : Nat} (B : gx_B G X own cc nL rm lo) (hd : decode cc pc = .ok (.if_icmp .ge off, 3)) (hx : zB x) (hy : zB y) (ht : (pc : Int) + off = (tgt : Int)) (kt : y ≤ x → gx_WG G X nL (zh J) (tgt) lv st) (kf : x < y → gx_WG G X nL (zh J) (pc + 3) lv st) : gx_WG G X nL (zh J) pc lv (.int (zI y) :: .int (zI x) :: st) :=
  gx_icmp_ge B hd ht (fun h => kt (by first | exact (zI_lt hx hy).mp h | exact (zI_lt hy hx).mp h | exact (zI_le hx hy).mp h | exact (zI_le hy hx).mp h | exact (zI_inj hx hy).mp h | exact (fun q => h ((zI_inj hx hy).mpr q)))) (fun h => kf (by first | exact Int.not_lt.mp (fun q => h ((zI_lt hx hy).mpr q)) | exact Int.not_lt.mp (fun q => h ((zI_lt hy hx).mpr q)) | exact Int.not_le.mp (fun q => h ((zI_le hx hy).mpr q)) | exact Int.not_le.mp (fun q => h ((zI_le hy hx).mpr q)) | exact (fun q => h ((zI_inj hx hy).mpr q)) | exact Decidable.byContradiction (fun q => h (fun e => q ((zI_inj hx hy).mp e))) | exact (zI_inj hx hy).mp h))

theorem z_if_ge {x off : Int} {tgt : Nat} (B : gx_B G X own cc nL rm lo) (hd : decode cc pc = .ok (.ifCond .ge off, 3)) (hx : zB x) (ht : (pc : Int) + off = (tgt : Int)) (kt : 0 ≤ x → gx_WG G X nL (zh J) (tgt) lv st) (kf : x < 0 → gx_WG G X nL (zh J) (pc + 3) lv st) : gx_WG G X nL (zh J) pc lv (.int (zI x) :: st) :=
  gx_if_ge B hd ht (fun h => kt (by first | exact (zI_lt hx zB_lit0).mp h | exact (zI_lt zB_lit0 hx).mp h | exact (zI_le hx zB_lit0).mp h | exact (zI_le zB_lit0 hx).mp h | exact (zI_inj hx zB_lit0).mp h | exact (fun q => h ((zI_inj hx zB_lit0).mpr q)))) (fun h => kf (by first | exact Int.not_lt.mp (fun q => h ((zI_lt hx zB_lit0).mpr q)) | exact Int.not_lt.mp (fun q => h ((zI_lt zB_lit0 hx).mpr q)) | exact Int.not_le.mp (fun q => h ((zI_le hx zB_lit0).mpr q)) | exact Int.not_le.mp (fun q => h ((zI_le zB_lit0 hx).mpr q)) | exact (fun q => h ((zI_inj hx zB_lit0).mpr q)) | exact Decidable.byContradiction (fun q => h (fun e => q ((zI_inj hx zB_lit0).mp e))) | exact (zI_inj hx zB_lit0).mp h))

theorem z_icmp_gt {x y off : Int} {tgt : Nat} (B : gx_B G X own cc nL rm lo) (hd : decode cc pc = .ok (.if_icmp .gt off, 3)) (hx : zB x) (hy : zB y) (ht : (pc : Int) + off = (tgt : Int)) (kt : y < x → gx_WG G X nL (zh J) (tgt) lv st) (kf : x ≤ y → gx_WG G X nL (zh J) (pc + 3) lv st) : gx_WG G X nL (zh J) pc lv (.int (zI y) :: .int (zI x) :: st) :=
  gx_icmp_gt B hd ht (fun h => kt (by first | exact (zI_lt hx hy).mp h | exact (zI_lt hy hx).mp h | exact (zI_le hx hy).mp h | exact (zI_le hy hx).mp h | exact (zI_inj hx hy).mp h | exact (fun q => h ((zI_inj hx hy).mpr q)))) (fun h => kf (by first | exact Int.not_lt.mp (fun q => h ((zI_lt hx hy).mpr q)) | exact Int.not_lt.mp (fun q => h ((zI_lt hy hx).mpr q)) | exact Int.not_le.mp (fun q => h ((zI_le hx hy).mpr q)) | exact Int.not_le.mp (fun q => h ((zI_le hy hx).mpr q)) | exact (fun q => h ((zI_inj hx hy).mpr q)) | exact Decidable.byContradiction (fun q => h (fun e => q ((zI_inj hx hy).mp e))) | exact (zI_inj hx hy).mp h))

theorem z_if_gt {x off : Int} {tgt : Nat} (B : gx_B G X own cc nL rm lo) (hd : decode cc pc = .ok (.ifCond .gt off, 3)) (hx : zB x) (ht : (pc : Int) + off = (tgt : Int)) (kt : 0 < x → gx_WG G X nL (zh J) (tgt) lv st) (kf : x ≤ 0 → gx_WG G X nL (zh J) (pc + 3) lv st) : gx_WG G X nL (zh J) pc lv (.int (zI x) :: st) :=
  gx_if_gt B hd ht (fun h => kt (by first | exact (zI_lt hx zB_lit0).mp h | exact (zI_lt zB_lit0 hx).mp h | exact (zI_le hx zB_lit0).mp h | exact (zI_le zB_lit0 hx).mp h | exact (zI_inj hx zB_lit0).mp h | exact (fun q => h ((zI_inj hx zB_lit0).mpr q)))) (fun h => kf (by first | exact Int.not_lt.mp (fun q => h ((zI_lt hx zB_lit0).mpr q)) | exact Int.not_lt.mp (fun q => h ((zI_lt zB_lit0 hx).mpr q)) | exact Int.not_le.mp (fun q => h ((zI_le hx zB_lit0).mpr q)) | exact Int.not_le.mp (fun q => h ((zI_le zB_lit0 hx).mpr q)) | exact (fun q => h ((zI_inj hx zB_lit0).mpr q)) | exact Decidable.byContradiction (fun q => h (fun e => q ((zI_inj hx zB_lit0).mp e))) | exact (zI_inj hx zB_lit0).mp h))

theorem z_icmp_le {x y off : Int} {tgt : Nat} (B : gx_B G X own cc nL rm lo) (hd : decode cc pc = .ok (.if_icmp .le off, 3)) (hx : zB x) (hy : zB y) (ht : (pc : Int) + off = (tgt : Int)) (kt : x ≤ y → gx_WG G X nL (zh J) (tgt) lv st) (kf : y < x → gx_WG G X nL (zh J) (pc + 3) lv st) : gx_WG G X nL (zh J) pc lv (.int (zI y) :: .int (zI x) :: st) :=
  gx_icmp_le B hd ht (fun h => kt (by first | exact (zI_lt hx hy).mp h | exact (zI_lt hy hx).mp h | exact (zI_le hx hy).mp h | exact (zI_le hy hx).mp h | exact (zI_inj hx hy).mp h | exact (fun q => h ((zI_inj hx hy).mpr q)))) (fun h => kf (by first | exact Int.not_lt.mp (fun q => h ((zI_lt hx hy).mpr q)) | exact Int.not_lt.mp (fun q => h ((zI_lt hy hx).mpr q)) | exact Int.not_le.mp (fun q => h ((zI_le hx hy).mpr q)) | exact Int.not_le.mp (fun q => h ((zI_le hy hx).mpr q)) | exact (fun q => h ((zI_inj hx hy).mpr q)) | exact Decidable.byContradiction (fun q => h (fun e => q ((zI_inj hx hy).mp e))) | exact (zI_inj hx hy).mp h))

theorem z_if_le {x off : Int} {tgt : Nat} (B : gx_B G X own cc nL rm lo) (hd : decode cc pc = .ok (.ifCond .le off, 3)) (hx : zB x) (ht : (pc : Int) + off = (tgt : Int)) (kt : x ≤ 0 → gx_WG G X nL (zh J) (tgt) lv st) (kf : 0 < x → gx_WG G X nL (zh J) (pc + 3) lv st) : gx_WG G X nL (zh J) pc lv (.int (zI x) :: st) :=
  gx_if_le B hd ht (fun h => kt (by first | exact (zI_lt hx zB_lit0).mp h | exact (zI_lt zB_lit0 hx).mp h | exact (zI_le hx zB_lit0).mp h | exact (zI_le zB_lit0 hx).mp h | exact (zI_inj hx zB_lit0).mp h | exact (fun q => h ((zI_inj hx zB_lit0).mpr q)))) (fun h => kf (by first | exact Int.not_lt.mp (fun q => h ((zI_lt hx zB_lit0).mpr q)) | exact Int.not_lt.mp (fun q => h ((zI_lt zB_lit0 hx).mpr q)) | exact Int.not_le.mp (fun q => h ((zI_le hx zB_lit0).mpr q)) | exact Int.not_le.mp (fun q => h ((zI_le zB_lit0 hx).mpr q)) | exact (fun q => h ((zI_inj hx zB_lit0).mpr q)) | exact Decidable.byContradiction (fun q => h (fun e => q ((zI_inj hx zB_lit0).mp e))) | exact (zI_inj hx zB_lit0).mp h))

theorem z_swOut {dflt a b : Int} {offs : Array Int} {len : Nat} {x : Int} {tgt : Nat} (B : gx_B G X own cc nL rm lo) (hd : decode cc pc = .ok (.tableswitch dflt a b offs, len)) (hx : zB x) (h : x < a ∨ b < x) (ht : (pc : Int) + dflt = (tgt : Int)) (kk : gx_WG G X nL (zh J) (tgt) lv st) : gx_WG G X nL (zh J) pc lv (.int (zI x) :: st) :=
  gx_swOut B hd (by rw [zI_toInt hx]; exact h) ht kk

theorem z_swIn {dflt a b : Int} {offs : Array Int} {len : Nat} {x : Int} {off : Int} {tgt : Nat} (B : gx_B G X own cc nL rm lo) (hd : decode cc pc = .ok (.tableswitch dflt a b offs, len)) (hx : zB x) (h1 : a ≤ x) (h2 : x ≤ b) (ho : offs[(x - a).toNat]? = some off) (ht : (pc : Int) + off = (tgt : Int)) (kk : gx_WG G X nL (zh J) (tgt) lv st) : gx_WG G X nL (zh J) pc lv (.int (zI x) :: st) :=
  gx_swIn B hd (by rw [zI_toInt hx]; omega) (by rw [zI_toInt hx]; omega) (by rw [zI_toInt hx]; exact ho) ht kk

theorem z_geti {idx ci k a : Nat} (B : gx_B G X own cc nL rm lo) (F : gx_FL own idx ci k) (hk : gx_k a = (ci, gx_cn ci)) (ha : a < lo) (hr : gx_r a k = 0) (hd : decode cc pc = .ok (.getfield idx, 3)) (kk : gx_WG G X nL (zh J) (pc + 3) lv (.int (zI (J a k)) :: st)) : gx_WG G X nL (zh J) pc lv (.ref (gx_ad G a) :: st) :=
  gx_geti B F hk ha hr hd kk

theorem z_puti {idx ci k a : Nat} {x : Int} (B : gx_B G X own cc nL rm lo) (F : gx_FW own idx ci k .int) (hk : gx_k a = (ci, gx_cn ci)) (ha : a < lo) (hr : gx_r a k = 0) (hd : decode cc pc = .ok (.putfield idx, 3)) (kk : ∀ J1 : zJ, J1 = zup J a k x → gx_WG G X nL (zh J1) (pc + 3) lv st) : gx_WG G X nL (zh J) pc lv (.int (zI x) :: .ref (gx_ad G a) :: st) :=
  gx_puti B F hk ha hr hd (fun I1 h => by rw [h, zh_up]; exact kk _ rfl)

theorem z_putz {idx ci k a : Nat} {x : Int} (B : gx_B G X own cc nL rm lo) (F : gx_FW own idx ci k .boolean) (hk : gx_k a = (ci, gx_cn ci)) (ha : a < lo) (hr : gx_r a k = 0) (hx0 : zI x = 0 ∨ zI x = 1) (hd : decode cc pc = .ok (.putfield idx, 3)) (kk : ∀ J1 : zJ, J1 = zup J a k x → gx_WG G X nL (zh J1) (pc + 3) lv st) : gx_WG G X nL (zh J) pc lv (.int (zI x) :: .ref (gx_ad G a) :: st) :=
  gx_putz B F hk ha hr hx0 hd (fun I1 h => by rw [h, zh_up]; exact kk _ rfl)

theorem z_iald {a n : Nat} {x : Int} (j : Nat) (B : gx_B G X own cc nL rm lo) (hk : gx_k a = (10, n)) (ha : a < lo) (hj : x = (j : Int)) (hlt : j < n) (hn : n < 2 ^ 31) (hd : decode cc pc = .ok (.iaload, 1)) (kk : gx_WG G X nL (zh J) (pc + 1) lv (.int (zI (J a j)) :: st)) : gx_WG G X nL (zh J) pc lv (.int (zI x) :: .ref (gx_ad G a) :: st) :=
  gx_iald B hk ha (zI_in hj hlt hn) hd (by rw [zI_clamp hj (Nat.lt_trans hlt hn)]; exact kk)

theorem z_iast {a n : Nat} {x v : Int} (j : Nat) (B : gx_B G X own cc nL rm lo) (hk : gx_k a = (10, n)) (ha : a < lo) (hj : x = (j : Int)) (hlt : j < n) (hn : n < 2 ^ 31) (hd : decode cc pc = .ok (.iastore, 1)) (kk : ∀ J1 : zJ, J1 = zup J a j v → gx_WG G X nL (zh J1) (pc + 1) lv st) : gx_WG G X nL (zh J) pc lv (.int (zI v) :: .int (zI x) :: .ref (gx_ad G a) :: st) :=
  gx_iast B hk ha (zI_in hj hlt hn) hd (fun I1 h => by rw [h, zI_clamp hj (Nat.lt_trans hlt hn), zh_up]; exact kk _ rfl)

theorem z_aald {a n : Nat} {x : Int} (j t : Nat) (B : gx_B G X own cc nL rm lo) (hk : gx_k a = (11, n)) (ha : a < lo) (hj : x = (j : Int)) (hlt : j < n) (hn : n < 2 ^ 31) (hr : gx_r a j = t + 1) (hd : decode cc pc = .ok (.aaload, 1)) (kk : gx_WG G X nL (zh J) (pc + 1) lv (.ref (gx_ad G t) :: st)) : gx_WG G X nL (zh J) pc lv (.int (zI x) :: .ref (gx_ad G a) :: st) :=
  gx_aald B hk ha (zI_in hj hlt hn) (by rw [zI_clamp hj (Nat.lt_trans hlt hn)]; exact hr) hd kk

theorem z_aald2 {a n : Nat} {x : Int} (j t : Nat) (B : gx_B G X own cc nL rm lo) (hk : gx_k a = (12, n)) (ha : a < lo) (hj : x = (j : Int)) (hlt : j < n) (hn : n < 2 ^ 31) (hr : gx_r a j = t + 1) (hd : decode cc pc = .ok (.aaload, 1)) (kk : gx_WG G X nL (zh J) (pc + 1) lv (.ref (gx_ad G t) :: st)) : gx_WG G X nL (zh J) pc lv (.int (zI x) :: .ref (gx_ad G a) :: st) :=
  gx_aald2 B hk ha (zI_in hj hlt hn) (by rw [zI_clamp hj (Nat.lt_trans hlt hn)]; exact hr) hd kk


def z_rowN (j : Nat) : Int := (gx_rowN j).toInt
def z_turnN (j : Nat) : Int := (gx_turnN j).toInt

theorem z_rowAt {x : Int} (j : Nat) (B : gx_B G X own cc nL rm lo) (hj : x = (j : Int)) (hlt : j < 6) (hd : decode cc pc = .ok (.iaload, 1)) (kk : gx_WG G X nL (zh J) (pc + 1) lv (.int (zI (z_rowN j)) :: st)) : gx_WG G X nL (zh J) pc lv (.int (zI x) :: .ref G.2.2.2.1.1 :: st) :=
  gx_rowAt B (zI_in hj hlt (by decide)) hd (by rw [zI_clamp hj (by omega), ← zI_self (gx_rowN j)]; exact kk)

theorem z_turnAt {x : Int} (j : Nat) (B : gx_B G X own cc nL rm lo) (hj : x = (j : Int)) (hlt : j < 4) (hd : decode cc pc = .ok (.iaload, 1)) (kk : gx_WG G X nL (zh J) (pc + 1) lv (.int (zI (z_turnN j)) :: st)) : gx_WG G X nL (zh J) pc lv (.int (zI x) :: .ref G.2.2.2.1.2 :: st) :=
  gx_turnAt B (zI_in hj hlt (by decide)) hd (by rw [zI_clamp hj (by omega), ← zI_self (gx_turnN j)]; exact kk)

theorem z_mmax {idx : Nat} {x y : Int} (B : gx_B G X own cc nL rm lo) (h1 : Cond.methodLink own idx Lib.Math.max.name ∈ gtbl) (hf : 1 ≤ rm.frames) (hlo : (st.map fun v => v.category).sum + 13 ≤ rm.locals) (hx : zB x) (hy : zB y) (hd : decode cc pc = .ok (.invokestatic idx, 3)) (kk : gx_WG G X nL (zh J) (pc + 3) lv (.int (zI (max x y)) :: st)) : gx_WG G X nL (zh J) pc lv (.int (zI y) :: .int (zI x) :: st) :=
  gx_mmax B h1 mm_max.1 mm_max.2.1 mm_max.2.2 hf hlo hd (by have e : (if zI x < zI y then zI y else zI x) = zI (max x y) := by { by_cases h : x < y; · { rw [if_pos ((zI_lt hx hy).mpr h)]; congr 1; omega }; · { rw [if_neg (fun q => h ((zI_lt hx hy).mp q))]; congr 1; omega } }; rw [e]; exact kk)

theorem z_mmin {idx : Nat} {x y : Int} (B : gx_B G X own cc nL rm lo) (h1 : Cond.methodLink own idx Lib.Math.min.name ∈ gtbl) (hf : 1 ≤ rm.frames) (hlo : (st.map fun v => v.category).sum + 13 ≤ rm.locals) (hx : zB x) (hy : zB y) (hd : decode cc pc = .ok (.invokestatic idx, 3)) (kk : gx_WG G X nL (zh J) (pc + 3) lv (.int (zI (min x y)) :: st)) : gx_WG G X nL (zh J) pc lv (.int (zI y) :: .int (zI x) :: st) :=
  gx_mmin B h1 mm_min.1 mm_min.2.1 mm_min.2.2 hf hlo hd (by have e : (if zI y < zI x then zI y else zI x) = zI (min x y) := by { by_cases h : y < x; · { rw [if_pos ((zI_lt hy hx).mpr h)]; congr 1; omega }; · { rw [if_neg (fun q => h ((zI_lt hy hx).mp q))]; congr 1; omega } }; rw [e]; exact kk)

theorem z_mabs {idx : Nat} {x : Int} (B : gx_B G X own cc nL rm lo) (h1 : Cond.methodLink own idx Lib.Math.abs.name ∈ gtbl) (hf : 1 ≤ rm.frames) (hlo : (st.map fun v => v.category).sum + 13 ≤ rm.locals) (hx : zB x) (hd : decode cc pc = .ok (.invokestatic idx, 3)) (kk : gx_WG G X nL (zh J) (pc + 3) lv (.int (zI (if 0 ≤ x then x else 0 - x)) :: st)) : gx_WG G X nL (zh J) pc lv (.int (zI x) :: st) :=
  gx_mabs B h1 mm_abs.1 mm_abs.2.1 mm_abs.2.2 hf hlo hd (by have e : (if 0 ≤ zI x then zI x else 0 - zI x) = zI (if 0 ≤ x then x else 0 - x) := by { by_cases h : 0 ≤ x; · { rw [if_pos (show (0 : Int32) ≤ zI x from (zI_le zB_lit0 hx).mpr h), if_pos h] }; · { rw [if_neg (show ¬ (0 : Int32) ≤ zI x from fun q => h ((zI_le zB_lit0 hx).mp q)), if_neg h]; exact zI_sub 0 x } }; rw [e]; exact kk)


def zpi (post : Int → zJ → Prop) : Int32 → gx_I → Prop := fun v I => ∃ (r : Int) (J : zJ), v = zI r ∧ I = zh J ∧ post r J
def zpv (post : zJ → Prop) : gx_I → Prop := fun I => ∃ J : zJ, I = zh J ∧ post J
/-- A CONTRACT over whole numbers -/
def zMi (l : Launch) (G : gx_G) (y : MethodName) (cb : ByteArray) (nb : Nat) (rt : FieldType) (rm : Room) (av : List Value) (J : zJ) (post : Int → zJ → Prop) : Prop := gx_Mi l G y cb nb rt rm av (zh J) (zpi post)
def zMv (l : Launch) (G : gx_G) (y : MethodName) (cb : ByteArray) (nb : Nat) (rm : Room) (av : List Value) (J : zJ) (post : zJ → Prop) : Prop := gx_Mv l G y cb nb rm av (zh J) (zpv post)
theorem z_ireti {post : Int → zJ → Prop} {v : Int} (B : gx_B G X own cc nL rm lo) (Rt : gx_Ri G X .int (zpi post)) (hd : decode cc pc = .ok (.ireturn, 1)) (hp : post v J) : gx_WG G X nL (zh J) pc lv [.int (zI v)] := gx_ireti B Rt hd ⟨v, J, rfl, rfl, hp⟩
theorem z_iretz {post : Int → zJ → Prop} {v : Int} (B : gx_B G X own cc nL rm lo) (Rt : gx_Ri G X .boolean (zpi post)) (hd : decode cc pc = .ok (.ireturn, 1)) (hv : v = 0 ∨ v = 1) (hp : post v J) : gx_WG G X nL (zh J) pc lv [.int (zI v)] := gx_iretz B Rt hd (by rcases hv with rfl | rfl <;> decide) ⟨v, J, rfl, rfl, hp⟩
theorem z_ret {post : zJ → Prop} (B : gx_B G X own cc nL rm lo) (Rt : gx_Rv G X (zpv post)) (hd : decode cc pc = .ok (.return_, 1)) (hp : post J) : gx_WG G X nL (zh J) pc lv [] := gx_ret B Rt hd ⟨J, rfl, hp⟩

theorem z_callVi {idx ci a n nb : Nat} {y : MethodName} {cb : ByteArray} {rmc : Room} {st0 : List Value} {rt : FieldType} {post : Int → zJ → Prop} (As : List Value) (B : gx_B G X own cc nL rm lo) (L : gx_LV own idx ci y cb nb (some rt) n) (hM : zMi (gx_la X) G y cb nb rt rmc (.ref (gx_ad G a) :: As) J post) (hk : gx_k a = (ci, gx_cn ci)) (ha : a < lo) (hn : As.length = n) (hst : st0 = As.reverse ++ .ref (gx_ad G a) :: st) (hsum : (st.map fun v => v.category).sum ≤ 8) (hf : rmc.frames + 1 ≤ rm.frames ∧ 8 + (nb + 11) + rmc.locals ≤ rm.locals) (hc0 : rmc.cells = 0 ∧ rmc.slots = 0) (hd : decode cc pc = .ok (.invokevirtual idx, 3)) (kk : ∀ (r : Int) (J1 : zJ), post r J1 → gx_WG G X nL (zh J1) (pc + 3) lv (.int (zI r) :: st)) : gx_WG G X nL (zh J) pc lv st0 :=
  gx_callVi As B L hM hk ha hn hst hsum hf hc0 hd (fun r I1 h => by obtain ⟨r, J1, rfl, rfl, hp⟩ := h; exact kk r J1 hp)

theorem z_callSi {idx n nb : Nat} {y : MethodName} {cb : ByteArray} {rmc : Room} {st0 : List Value} {rt : FieldType} {post : Int → zJ → Prop} (As : List Value) (B : gx_B G X own cc nL rm lo) (L : gx_LS own idx y cb nb (some rt) n) (hM : zMi (gx_la X) G y cb nb rt rmc As J post) (hn : As.length = n) (hst : st0 = As.reverse ++ st) (hsum : (st.map fun v => v.category).sum ≤ 8) (hf : rmc.frames + 1 ≤ rm.frames ∧ 8 + (nb + 11) + rmc.locals ≤ rm.locals) (hc0 : rmc.cells = 0 ∧ rmc.slots = 0) (hd : decode cc pc = .ok (.invokestatic idx, 3)) (kk : ∀ (r : Int) (J1 : zJ), post r J1 → gx_WG G X nL (zh J1) (pc + 3) lv (.int (zI r) :: st)) : gx_WG G X nL (zh J) pc lv st0 :=
  gx_callSi As B L hM hn hst hsum hf hc0 hd (fun r I1 h => by obtain ⟨r, J1, rfl, rfl, hp⟩ := h; exact kk r J1 hp)

theorem z_callVv {idx ci a n nb : Nat} {y : MethodName} {cb : ByteArray} {rmc : Room} {st0 : List Value} {post : zJ → Prop} (As : List Value) (B : gx_B G X own cc nL rm lo) (L : gx_LV own idx ci y cb nb (none) n) (hM : zMv (gx_la X) G y cb nb rmc (.ref (gx_ad G a) :: As) J post) (hk : gx_k a = (ci, gx_cn ci)) (ha : a < lo) (hn : As.length = n) (hst : st0 = As.reverse ++ .ref (gx_ad G a) :: st) (hsum : (st.map fun v => v.category).sum ≤ 8) (hf : rmc.frames + 1 ≤ rm.frames ∧ 8 + (nb + 11) + rmc.locals ≤ rm.locals) (hc0 : rmc.cells = 0 ∧ rmc.slots = 0) (hd : decode cc pc = .ok (.invokevirtual idx, 3)) (kk : ∀ (J1 : zJ), post J1 → gx_WG G X nL (zh J1) (pc + 3) lv st) : gx_WG G X nL (zh J) pc lv st0 :=
  gx_callVv As B L hM hk ha hn hst hsum hf hc0 hd (fun I1 h => by obtain ⟨J1, rfl, hp⟩ := h; exact kk J1 hp)

theorem z_callSv {idx n nb : Nat} {y : MethodName} {cb : ByteArray} {rmc : Room} {st0 : List Value} {post : zJ → Prop} (As : List Value) (B : gx_B G X own cc nL rm lo) (L : gx_LS own idx y cb nb (none) n) (hM : zMv (gx_la X) G y cb nb rmc As J post) (hn : As.length = n) (hst : st0 = As.reverse ++ st) (hsum : (st.map fun v => v.category).sum ≤ 8) (hf : rmc.frames + 1 ≤ rm.frames ∧ 8 + (nb + 11) + rmc.locals ≤ rm.locals) (hc0 : rmc.cells = 0 ∧ rmc.slots = 0) (hd : decode cc pc = .ok (.invokestatic idx, 3)) (kk : ∀ (J1 : zJ), post J1 → gx_WG G X nL (zh J1) (pc + 3) lv st) : gx_WG G X nL (zh J) pc lv st0 :=
  gx_callSv As B L hM hn hst hsum hf hc0 hd (fun I1 h => by obtain ⟨J1, rfl, hp⟩ := h; exact kk J1 hp)

theorem z_callRoot {rmc : Room} {st0 : List Value} {post : Int → zJ → Prop} (As : List Value) (B : gx_B G X own cc nL rm lo) (ho : own = RX1) (hM : zMi (gx_la X) G yX5_rootOf cX5_rootOf 2 .int rmc As J post) (hn : As.length = 2) (hst : st0 = As.reverse ++ st) (hsum : (st.map fun v => v.category).sum ≤ 8) (hf : rmc.frames + 1 ≤ rm.frames ∧ 8 + (2 + 11) + rmc.locals ≤ rm.locals) (hc0 : rmc.cells = 0 ∧ rmc.slots = 0) (hd : decode cc pc = .ok (.invokestatic 25, 3)) (kk : ∀ (r : Int) (J1 : zJ), post r J1 → gx_WG G X nL (zh J1) (pc + 3) lv (.int (zI r) :: st)) : gx_WG G X nL (zh J) pc lv st0 :=
  gx_callRoot As B ho mw_root.1 mw_root.2.1 mw_root.2.2 hM hn hst hsum hf hc0 hd (fun r I1 h => by obtain ⟨r, J1, rfl, rfl, hp⟩ := h; exact kk r J1 hp)


end GZ
/-- a weaker end -/
theorem zMi.mono {l : Launch} {G : gx_G} {y : MethodName} {cb : ByteArray} {nb : Nat} {rt : FieldType} {rm : Room} {av : List Value} {J J' : zJ} {post post' : Int → zJ → Prop} (h : zMi l G y cb nb rt rm av J post) (e : J = J') (hp : post = post') : zMi l G y cb nb rt rm av J' post' := by subst e; subst hp; exact h
end
section
def isDesk (d : Nat) : Prop := d = 1 ∨ d = 6
def isHand (a : Nat) : Prop := a = 14 ∨ a = 45
def isBoard (d : Nat) : Prop := d = 15 ∨ d = 46
def isGoods (g : Nat) : Prop := ∃ a b, isHand a ∧ b < 8 ∧ g = a + 15 + 2 * b
theorem pD1 : isDesk 1 := Or.inl rfl
theorem pD6 : isDesk 6 := Or.inr rfl
theorem pH0 : isHand 14 := Or.inl rfl
theorem pH1 : isHand 45 := Or.inr rfl
theorem kDesk {d : Nat} (h : isDesk d) : gx_k d = (2, gx_cn 2) := by rcases h with rfl | rfl <;> decide
theorem bDesk {d : Nat} (h : isDesk d) : d < 76 := by rcases h with rfl | rfl <;> decide
theorem zDesk0 {d : Nat} (h : isDesk d) : gx_r d 0 = 0 := by rcases h with rfl | rfl <;> decide
theorem zDesk1 {d : Nat} (h : isDesk d) : gx_r d 1 = 0 := by rcases h with rfl | rfl <;> decide
theorem zDesk2 {d : Nat} (h : isDesk d) : gx_r d 2 = 0 := by rcases h with rfl | rfl <;> decide
theorem zDesk3 {d : Nat} (h : isDesk d) : gx_r d 3 = 0 := by rcases h with rfl | rfl <;> decide
theorem zDesk4 {d : Nat} (h : isDesk d) : gx_r d 4 = 0 := by rcases h with rfl | rfl <;> decide
theorem zDesk5 {d : Nat} (h : isDesk d) : gx_r d 5 = 0 := by rcases h with rfl | rfl <;> decide
theorem rDesk6 {d : Nat} (h : isDesk d) : gx_r d 6 = d + 1 + 1 := by rcases h with rfl | rfl <;> decide
theorem aDesk1 {d : Nat} (h : isDesk d) : gx_k (d + 1) = (10, 8) := by rcases h with rfl | rfl <;> decide
theorem cDesk1 {d : Nat} (h : isDesk d) : d + 1 < 76 := by rcases h with rfl | rfl <;> decide
theorem rDesk7 {d : Nat} (h : isDesk d) : gx_r d 7 = d + 2 + 1 := by rcases h with rfl | rfl <;> decide
theorem aDesk2 {d : Nat} (h : isDesk d) : gx_k (d + 2) = (10, 8) := by rcases h with rfl | rfl <;> decide
theorem cDesk2 {d : Nat} (h : isDesk d) : d + 2 < 76 := by rcases h with rfl | rfl <;> decide
theorem rDesk8 {d : Nat} (h : isDesk d) : gx_r d 8 = d + 3 + 1 := by rcases h with rfl | rfl <;> decide
theorem aDesk3 {d : Nat} (h : isDesk d) : gx_k (d + 3) = (10, 8) := by rcases h with rfl | rfl <;> decide
theorem cDesk3 {d : Nat} (h : isDesk d) : d + 3 < 76 := by rcases h with rfl | rfl <;> decide
theorem rDesk9 {d : Nat} (h : isDesk d) : gx_r d 9 = d + 4 + 1 := by rcases h with rfl | rfl <;> decide
theorem aDesk4 {d : Nat} (h : isDesk d) : gx_k (d + 4) = (10, 8) := by rcases h with rfl | rfl <;> decide
theorem cDesk4 {d : Nat} (h : isDesk d) : d + 4 < 76 := by rcases h with rfl | rfl <;> decide
theorem kHand {a : Nat} (h : isHand a) : gx_k a = (4, gx_cn 4) := by rcases h with rfl | rfl <;> decide
theorem bHand {a : Nat} (h : isHand a) : a < 76 := by rcases h with rfl | rfl <;> decide
theorem rHand0 {a : Nat} (h : isHand a) : gx_r a 0 = a + 1 + 1 := by rcases h with rfl | rfl <;> decide
theorem rHand1 {a : Nat} (h : isHand a) : gx_r a 1 = a + 4 + 1 := by rcases h with rfl | rfl <;> decide
theorem rHand2 {a : Nat} (h : isHand a) : gx_r a 2 = a + 5 + 1 := by rcases h with rfl | rfl <;> decide
theorem rHand4 {a : Nat} (h : isHand a) : gx_r a 4 = a + 6 + 1 := by rcases h with rfl | rfl <;> decide
theorem zHand3 {a : Nat} (h : isHand a) : gx_r a 3 = 0 := by rcases h with rfl | rfl <;> decide
theorem bdH {a : Nat} (h : isHand a) : isBoard (a + 1) := by exact h.elim (fun e => by subst e; exact Or.inl rfl) (fun e => by subst e; exact Or.inr rfl)
theorem kHg {a : Nat} (h : isHand a) : gx_k (a + 4) = (11, 8) := by rcases h with rfl | rfl <;> decide
theorem cHg {a : Nat} (h : isHand a) : a + 4 < 76 := by rcases h with rfl | rfl <;> decide
theorem kHc {a : Nat} (h : isHand a) : gx_k (a + 5) = (10, 8) := by rcases h with rfl | rfl <;> decide
theorem cHc {a : Nat} (h : isHand a) : a + 5 < 76 := by rcases h with rfl | rfl <;> decide
theorem kHj {a : Nat} (h : isHand a) : gx_k (a + 6) = (12, 8) := by rcases h with rfl | rfl <;> decide
theorem cHj {a : Nat} (h : isHand a) : a + 6 < 76 := by rcases h with rfl | rfl <;> decide
theorem rHg {a b : Nat} (h : isHand a) (hb : b < 8) : gx_r (a + 4) b = a + 15 + 2 * b + 1 := by
  rcases h with rfl | rfl
  · have h9 : ∀ b, b < 8 → gx_r (14 + 4) b = 14 + 15 + 2 * b + 1 := by decide
    exact h9 b hb
  · have h9 : ∀ b, b < 8 → gx_r (45 + 4) b = 45 + 15 + 2 * b + 1 := by decide
    exact h9 b hb
theorem rHj {a b : Nat} (h : isHand a) (hb : b < 8) : gx_r (a + 6) b = a + 7 + b + 1 := by
  rcases h with rfl | rfl
  · have h9 : ∀ b, b < 8 → gx_r (14 + 6) b = 14 + 7 + b + 1 := by decide
    exact h9 b hb
  · have h9 : ∀ b, b < 8 → gx_r (45 + 6) b = 45 + 7 + b + 1 := by decide
    exact h9 b hb
theorem kHjr {a b : Nat} (h : isHand a) (hb : b < 8) : gx_k (a + 7 + b) = (10, 20) := by
  rcases h with rfl | rfl
  · have h9 : ∀ b, b < 8 → gx_k (14 + 7 + b) = (10, 20) := by decide
    exact h9 b hb
  · have h9 : ∀ b, b < 8 → gx_k (45 + 7 + b) = (10, 20) := by decide
    exact h9 b hb
theorem cHjr {a b : Nat} (h : isHand a) (hb : b < 8) : a + 7 + b < 76 := by
  rcases h with rfl | rfl
  · have h9 : ∀ b, b < 8 → 14 + 7 + b < 76 := by decide
    exact h9 b hb
  · have h9 : ∀ b, b < 8 → 45 + 7 + b < 76 := by decide
    exact h9 b hb
theorem gdH {a b : Nat} (h : isHand a) (hb : b < 8) : isGoods (a + 15 + 2 * b) := ⟨a, b, h, hb, rfl⟩
theorem kG0 {a b : Nat} (h : isHand a) (hb : b < 8) : gx_k (a + 15 + 2 * b) = (3, gx_cn 3) := by
  rcases h with rfl | rfl
  · have h9 : ∀ b, b < 8 → gx_k (14 + 15 + 2 * b) = (3, gx_cn 3) := by decide
    exact h9 b hb
  · have h9 : ∀ b, b < 8 → gx_k (45 + 15 + 2 * b) = (3, gx_cn 3) := by decide
    exact h9 b hb
theorem bG0 {a b : Nat} (h : isHand a) (hb : b < 8) : a + 15 + 2 * b < 76 := by
  rcases h with rfl | rfl
  · have h9 : ∀ b, b < 8 → 14 + 15 + 2 * b < 76 := by decide
    exact h9 b hb
  · have h9 : ∀ b, b < 8 → 45 + 15 + 2 * b < 76 := by decide
    exact h9 b hb
theorem rG0 {a b : Nat} (h : isHand a) (hb : b < 8) : gx_r (a + 15 + 2 * b) 0 = a + 15 + 2 * b + 1 + 1 := by
  rcases h with rfl | rfl
  · have h9 : ∀ b, b < 8 → gx_r (14 + 15 + 2 * b) 0 = 14 + 15 + 2 * b + 1 + 1 := by decide
    exact h9 b hb
  · have h9 : ∀ b, b < 8 → gx_r (45 + 15 + 2 * b) 0 = 45 + 15 + 2 * b + 1 + 1 := by decide
    exact h9 b hb
theorem aG0 {a b : Nat} (h : isHand a) (hb : b < 8) : gx_k (a + 15 + 2 * b + 1) = (10, 20) := by
  rcases h with rfl | rfl
  · have h9 : ∀ b, b < 8 → gx_k (14 + 15 + 2 * b + 1) = (10, 20) := by decide
    exact h9 b hb
  · have h9 : ∀ b, b < 8 → gx_k (45 + 15 + 2 * b + 1) = (10, 20) := by decide
    exact h9 b hb
theorem cG0 {a b : Nat} (h : isHand a) (hb : b < 8) : a + 15 + 2 * b + 1 < 76 := by
  rcases h with rfl | rfl
  · have h9 : ∀ b, b < 8 → 14 + 15 + 2 * b + 1 < 76 := by decide
    exact h9 b hb
  · have h9 : ∀ b, b < 8 → 45 + 15 + 2 * b + 1 < 76 := by decide
    exact h9 b hb
theorem kGoods {g : Nat} (h : isGoods g) : gx_k g = (3, gx_cn 3) := by obtain ⟨a, b, h1, h2, rfl⟩ := h; exact kG0 h1 h2
theorem bGoods {g : Nat} (h : isGoods g) : g < 76 := by obtain ⟨a, b, h1, h2, rfl⟩ := h; exact bG0 h1 h2
theorem rGoods0 {g : Nat} (h : isGoods g) : gx_r g 0 = g + 1 + 1 := by obtain ⟨a, b, h1, h2, rfl⟩ := h; exact rG0 h1 h2
theorem aGoods {g : Nat} (h : isGoods g) : gx_k (g + 1) = (10, 20) := by obtain ⟨a, b, h1, h2, rfl⟩ := h; exact aG0 h1 h2
theorem cGoods {g : Nat} (h : isGoods g) : g + 1 < 76 := by obtain ⟨a, b, h1, h2, rfl⟩ := h; exact cG0 h1 h2
theorem zG1 {a b : Nat} (h : isHand a) (hb : b < 8) : gx_r (a + 15 + 2 * b) 1 = 0 := by
  rcases h with rfl | rfl
  · have h9 : ∀ b, b < 8 → gx_r (14 + 15 + 2 * b) 1 = 0 := by decide
    exact h9 b hb
  · have h9 : ∀ b, b < 8 → gx_r (45 + 15 + 2 * b) 1 = 0 := by decide
    exact h9 b hb
theorem zGoods1 {g : Nat} (h : isGoods g) : gx_r g 1 = 0 := by obtain ⟨a, b, h1, h2, rfl⟩ := h; exact zG1 h1 h2
theorem zG2 {a b : Nat} (h : isHand a) (hb : b < 8) : gx_r (a + 15 + 2 * b) 2 = 0 := by
  rcases h with rfl | rfl
  · have h9 : ∀ b, b < 8 → gx_r (14 + 15 + 2 * b) 2 = 0 := by decide
    exact h9 b hb
  · have h9 : ∀ b, b < 8 → gx_r (45 + 15 + 2 * b) 2 = 0 := by decide
    exact h9 b hb
theorem zGoods2 {g : Nat} (h : isGoods g) : gx_r g 2 = 0 := by obtain ⟨a, b, h1, h2, rfl⟩ := h; exact zG2 h1 h2
theorem zG3 {a b : Nat} (h : isHand a) (hb : b < 8) : gx_r (a + 15 + 2 * b) 3 = 0 := by
  rcases h with rfl | rfl
  · have h9 : ∀ b, b < 8 → gx_r (14 + 15 + 2 * b) 3 = 0 := by decide
    exact h9 b hb
  · have h9 : ∀ b, b < 8 → gx_r (45 + 15 + 2 * b) 3 = 0 := by decide
    exact h9 b hb
theorem zGoods3 {g : Nat} (h : isGoods g) : gx_r g 3 = 0 := by obtain ⟨a, b, h1, h2, rfl⟩ := h; exact zG3 h1 h2
theorem zG4 {a b : Nat} (h : isHand a) (hb : b < 8) : gx_r (a + 15 + 2 * b) 4 = 0 := by
  rcases h with rfl | rfl
  · have h9 : ∀ b, b < 8 → gx_r (14 + 15 + 2 * b) 4 = 0 := by decide
    exact h9 b hb
  · have h9 : ∀ b, b < 8 → gx_r (45 + 15 + 2 * b) 4 = 0 := by decide
    exact h9 b hb
theorem zGoods4 {g : Nat} (h : isGoods g) : gx_r g 4 = 0 := by obtain ⟨a, b, h1, h2, rfl⟩ := h; exact zG4 h1 h2
theorem zG5 {a b : Nat} (h : isHand a) (hb : b < 8) : gx_r (a + 15 + 2 * b) 5 = 0 := by
  rcases h with rfl | rfl
  · have h9 : ∀ b, b < 8 → gx_r (14 + 15 + 2 * b) 5 = 0 := by decide
    exact h9 b hb
  · have h9 : ∀ b, b < 8 → gx_r (45 + 15 + 2 * b) 5 = 0 := by decide
    exact h9 b hb
theorem zGoods5 {g : Nat} (h : isGoods g) : gx_r g 5 = 0 := by obtain ⟨a, b, h1, h2, rfl⟩ := h; exact zG5 h1 h2
theorem zG6 {a b : Nat} (h : isHand a) (hb : b < 8) : gx_r (a + 15 + 2 * b) 6 = 0 := by
  rcases h with rfl | rfl
  · have h9 : ∀ b, b < 8 → gx_r (14 + 15 + 2 * b) 6 = 0 := by decide
    exact h9 b hb
  · have h9 : ∀ b, b < 8 → gx_r (45 + 15 + 2 * b) 6 = 0 := by decide
    exact h9 b hb
theorem zGoods6 {g : Nat} (h : isGoods g) : gx_r g 6 = 0 := by obtain ⟨a, b, h1, h2, rfl⟩ := h; exact zG6 h1 h2
theorem zG7 {a b : Nat} (h : isHand a) (hb : b < 8) : gx_r (a + 15 + 2 * b) 7 = 0 := by
  rcases h with rfl | rfl
  · have h9 : ∀ b, b < 8 → gx_r (14 + 15 + 2 * b) 7 = 0 := by decide
    exact h9 b hb
  · have h9 : ∀ b, b < 8 → gx_r (45 + 15 + 2 * b) 7 = 0 := by decide
    exact h9 b hb
theorem zGoods7 {g : Nat} (h : isGoods g) : gx_r g 7 = 0 := by obtain ⟨a, b, h1, h2, rfl⟩ := h; exact zG7 h1 h2
theorem zG8 {a b : Nat} (h : isHand a) (hb : b < 8) : gx_r (a + 15 + 2 * b) 8 = 0 := by
  rcases h with rfl | rfl
  · have h9 : ∀ b, b < 8 → gx_r (14 + 15 + 2 * b) 8 = 0 := by decide
    exact h9 b hb
  · have h9 : ∀ b, b < 8 → gx_r (45 + 15 + 2 * b) 8 = 0 := by decide
    exact h9 b hb
theorem zGoods8 {g : Nat} (h : isGoods g) : gx_r g 8 = 0 := by obtain ⟨a, b, h1, h2, rfl⟩ := h; exact zG8 h1 h2
theorem kBoard {d : Nat} (h : isBoard d) : gx_k d = (1, gx_cn 1) := by rcases h with rfl | rfl <;> decide
theorem bBoard {d : Nat} (h : isBoard d) : d < 76 := by rcases h with rfl | rfl <;> decide
theorem rBoard0 {d : Nat} (h : isBoard d) : gx_r d 0 = d + 1 + 1 := by rcases h with rfl | rfl <;> decide
theorem rBoard1 {d : Nat} (h : isBoard d) : gx_r d 1 = d + 2 + 1 := by rcases h with rfl | rfl <;> decide
theorem zBoard2 {d : Nat} (h : isBoard d) : gx_r d 2 = 0 := by rcases h with rfl | rfl <;> decide
theorem aBoard1 {d : Nat} (h : isBoard d) : gx_k (d + 1) = (10, 72) := by rcases h with rfl | rfl <;> decide
theorem cBoard1 {d : Nat} (h : isBoard d) : d + 1 < 76 := by rcases h with rfl | rfl <;> decide
theorem aBoard2 {d : Nat} (h : isBoard d) : gx_k (d + 2) = (10, 48) := by rcases h with rfl | rfl <;> decide
theorem cBoard2 {d : Nat} (h : isBoard d) : d + 2 < 76 := by rcases h with rfl | rfl <;> decide
abbrev rmX5_system : Room := { frames := 7, cells := 0, slots := 0, locals := 168 }
abbrev rmX5_sound : Room := { frames := 0, cells := 0, slots := 0, locals := 0 }
abbrev rmX5_root : Room := { frames := 1, cells := 0, slots := 0, locals := 21 }
abbrev rmX5_rule : Room := { frames := 6, cells := 0, slots := 0, locals := 136 }
abbrev rmX5_beat : Room := { frames := 7, cells := 0, slots := 0, locals := 165 }
abbrev rmX5_alter : Room := { frames := 7, cells := 0, slots := 0, locals := 165 }
abbrev rmX5_drop : Room := { frames := 6, cells := 0, slots := 0, locals := 135 }
abbrev rmX5_of : Room := { frames := 1, cells := 0, slots := 0, locals := 21 }
abbrev rmX5_good : Room := { frames := 1, cells := 0, slots := 0, locals := 21 }
abbrev rmX5_button : Room := { frames := 1, cells := 0, slots := 0, locals := 22 }
abbrev rmX5_hand : Room := { frames := 1, cells := 0, slots := 0, locals := 21 }
abbrev rmX5_jumps : Room := { frames := 0, cells := 0, slots := 0, locals := 0 }
abbrev rmX5_sounds : Room := { frames := 2, cells := 0, slots := 0, locals := 45 }
abbrev rmX5_changed : Room := { frames := 7, cells := 0, slots := 0, locals := 168 }
abbrev rmX5_use : Room := { frames := 1, cells := 0, slots := 0, locals := 21 }
abbrev rmX5_bellows : Room := { frames := 1, cells := 0, slots := 0, locals := 22 }
abbrev rmX5_air : Room := { frames := 3, cells := 0, slots := 0, locals := 68 }
abbrev rmX5_cost : Room := { frames := 1, cells := 0, slots := 0, locals := 20 }
abbrev rmX5_wants : Room := { frames := 0, cells := 0, slots := 0, locals := 0 }
abbrev rmX5_many : Room := { frames := 3, cells := 0, slots := 0, locals := 67 }
abbrev rmX5_keep : Room := { frames := 2, cells := 0, slots := 0, locals := 47 }
abbrev rmX5_back : Room := { frames := 7, cells := 0, slots := 0, locals := 168 }
abbrev rmX5_isSystem : Room := { frames := 0, cells := 0, slots := 0, locals := 0 }
abbrev rmX5_isBeat : Room := { frames := 0, cells := 0, slots := 0, locals := 0 }
abbrev rmX5_rootOf : Room := { frames := 0, cells := 0, slots := 0, locals := 0 }
abbrev rmX5_setRegister : Room := { frames := 5, cells := 0, slots := 0, locals := 114 }
abbrev rmX5_setRoom : Room := { frames := 5, cells := 0, slots := 0, locals := 114 }
abbrev rmX5_setStart : Room := { frames := 5, cells := 0, slots := 0, locals := 114 }
abbrev rmX5_settleBeat : Room := { frames := 6, cells := 0, slots := 0, locals := 144 }
abbrev rmX5_settleHand : Room := { frames := 5, cells := 0, slots := 0, locals := 115 }
abbrev rmX5_settleBellows : Room := { frames := 4, cells := 0, slots := 0, locals := 94 }
abbrev rmX6_in : Room := { frames := 0, cells := 0, slots := 0, locals := 0 }
abbrev rmX6_isBeat : Room := { frames := 1, cells := 0, slots := 0, locals := 22 }
abbrev rmX6_isSystem : Room := { frames := 1, cells := 0, slots := 0, locals := 22 }
abbrev rmX6_system : Room := { frames := 2, cells := 0, slots := 0, locals := 43 }
abbrev rmX6_rootOf : Room := { frames := 0, cells := 0, slots := 0, locals := 0 }
abbrev rmX6_isThere : Room := { frames := 0, cells := 0, slots := 0, locals := 0 }
abbrev rmX6_soundOf : Room := { frames := 1, cells := 0, slots := 0, locals := 21 }
abbrev rmX6_sound : Room := { frames := 2, cells := 0, slots := 0, locals := 43 }
abbrev rmX6_root : Room := { frames := 1, cells := 0, slots := 0, locals := 22 }
abbrev rmX6_rule : Room := { frames := 1, cells := 0, slots := 0, locals := 22 }
abbrev rmX6_isTold : Room := { frames := 1, cells := 0, slots := 0, locals := 22 }
abbrev rmX6_put : Room := { frames := 0, cells := 0, slots := 0, locals := 0 }
abbrev rmX6_beat : Room := { frames := 2, cells := 0, slots := 0, locals := 45 }
abbrev rmX6_alter : Room := { frames := 2, cells := 0, slots := 0, locals := 45 }
abbrev rmX6_drop : Room := { frames := 0, cells := 0, slots := 0, locals := 0 }
abbrev rmX6_of : Room := { frames := 2, cells := 0, slots := 0, locals := 43 }
abbrev rmX6_ones : Room := { frames := 0, cells := 0, slots := 0, locals := 0 }
abbrev rmX6_press : Room := { frames := 0, cells := 0, slots := 0, locals := 0 }
abbrev rmX6_isAhead : Room := { frames := 0, cells := 0, slots := 0, locals := 0 }
abbrev rmX6_judge : Room := { frames := 2, cells := 0, slots := 0, locals := 43 }
abbrev rmX6_judgeAll : Room := { frames := 3, cells := 0, slots := 0, locals := 77 }
abbrev rmX6_findGood : Room := { frames := 4, cells := 0, slots := 0, locals := 101 }
abbrev rmX6_good : Room := { frames := 5, cells := 0, slots := 0, locals := 125 }
abbrev rmX6_button : Room := { frames := 5, cells := 0, slots := 0, locals := 125 }
abbrev rmX6_placeOf : Room := { frames := 0, cells := 0, slots := 0, locals := 0 }
abbrev rmX6_away : Room := { frames := 0, cells := 0, slots := 0, locals := 0 }
abbrev rmX6_nextWith : Room := { frames := 0, cells := 0, slots := 0, locals := 0 }
abbrev rmX6_behind : Room := { frames := 1, cells := 0, slots := 0, locals := 22 }
abbrev rmX6_findHand : Room := { frames := 5, cells := 0, slots := 0, locals := 125 }
abbrev rmX6_hand : Room := { frames := 6, cells := 0, slots := 0, locals := 150 }
abbrev rmX6_jumps : Room := { frames := 6, cells := 0, slots := 0, locals := 150 }
abbrev rmX6_heardAt : Room := { frames := 2, cells := 0, slots := 0, locals := 43 }
abbrev rmX6_sounds : Room := { frames := 6, cells := 0, slots := 0, locals := 150 }
abbrev rmX6_buttonAt : Room := { frames := 0, cells := 0, slots := 0, locals := 0 }
abbrev rmX6_changed : Room := { frames := 6, cells := 0, slots := 0, locals := 150 }
abbrev rmX6_findUses : Room := { frames := 6, cells := 0, slots := 0, locals := 150 }
abbrev rmX6_use : Room := { frames := 7, cells := 0, slots := 0, locals := 171 }
abbrev rmX6_costOf : Room := { frames := 1, cells := 0, slots := 0, locals := 22 }
abbrev rmX6_findWay : Room := { frames := 2, cells := 0, slots := 0, locals := 50 }
abbrev rmX6_goesOut : Room := { frames := 0, cells := 0, slots := 0, locals := 0 }
abbrev rmX6_bellows : Room := { frames := 7, cells := 0, slots := 0, locals := 171 }
abbrev rmX6_air : Room := { frames := 7, cells := 0, slots := 0, locals := 171 }
abbrev rmX6_cost : Room := { frames := 7, cells := 0, slots := 0, locals := 171 }
abbrev rmX6_wants : Room := { frames := 7, cells := 0, slots := 0, locals := 171 }
abbrev rmX6_sum : Room := { frames := 6, cells := 0, slots := 0, locals := 147 }
abbrev rmX6_turns : Room := { frames := 7, cells := 0, slots := 0, locals := 171 }
abbrev rmX6_many : Room := { frames := 8, cells := 0, slots := 0, locals := 194 }
abbrev rmX6_keep : Room := { frames := 0, cells := 0, slots := 0, locals := 0 }
abbrev rmX6_back : Room := { frames := 0, cells := 0, slots := 0, locals := 0 }
abbrev rmX0_load : Room := { frames := 2, cells := 0, slots := 0, locals := 45 }
abbrev rmX0_choose : Room := { frames := 3, cells := 0, slots := 0, locals := 69 }
abbrev rmX0_hasWay : Room := { frames := 0, cells := 0, slots := 0, locals := 0 }
abbrev rmX0_goesOut : Room := { frames := 0, cells := 0, slots := 0, locals := 0 }
abbrev rmX0_turnsAt : Room := { frames := 1, cells := 0, slots := 0, locals := 22 }
abbrev rmX0_turnsWhenTied : Room := { frames := 2, cells := 0, slots := 0, locals := 44 }
abbrev rmX0_airMoved : Room := { frames := 1, cells := 0, slots := 0, locals := 22 }
abbrev rmX0_peakOf : Room := { frames := 2, cells := 0, slots := 0, locals := 44 }
abbrev rmX0_priceOf : Room := { frames := 2, cells := 0, slots := 0, locals := 44 }
abbrev rmX0_turnsOf : Room := { frames := 2, cells := 0, slots := 0, locals := 44 }
abbrev rmX0_airBehind : Room := { frames := 2, cells := 0, slots := 0, locals := 44 }
abbrev rmX1_tune : Room := { frames := 1, cells := 0, slots := 0, locals := 21 }
abbrev rmX1_raised : Room := { frames := 0, cells := 0, slots := 0, locals := 0 }
abbrev rmX1_lowButton : Room := { frames := 0, cells := 0, slots := 0, locals := 0 }
abbrev rmX2_has : Room := { frames := 0, cells := 0, slots := 0, locals := 0 }
abbrev rmX2_write : Room := { frames := 0, cells := 0, slots := 0, locals := 0 }
abbrev rmX2_copyFrom : Room := { frames := 1, cells := 0, slots := 0, locals := 25 }
abbrev rmX3_find : Room := { frames := 5, cells := 0, slots := 0, locals := 121 }
abbrev rmX3_hasLowButton : Room := { frames := 0, cells := 0, slots := 0, locals := 0 }
abbrev rmX3_offerSingles : Room := { frames := 4, cells := 0, slots := 0, locals := 96 }
abbrev rmX3_offerPairs : Room := { frames := 4, cells := 0, slots := 0, locals := 96 }
abbrev rmX3_offer : Room := { frames := 3, cells := 0, slots := 0, locals := 69 }
abbrev rmX3_takeWithLow : Room := { frames := 2, cells := 0, slots := 0, locals := 47 }
abbrev rmX3_packed : Room := { frames := 1, cells := 0, slots := 0, locals := 21 }
abbrev rmX3_insert : Room := { frames := 1, cells := 0, slots := 0, locals := 21 }
abbrev rmX3_buttonAt : Room := { frames := 0, cells := 0, slots := 0, locals := 0 }
abbrev rmX3_placeOf : Room := { frames := 1, cells := 0, slots := 0, locals := 22 }
abbrev rmX4_learn : Room := { frames := 6, cells := 0, slots := 0, locals := 144 }
abbrev rmX4_choose : Room := { frames := 4, cells := 0, slots := 0, locals := 92 }
abbrev rmX4_lookAhead : Room := { frames := 3, cells := 0, slots := 0, locals := 68 }
abbrev rmX4_fewestOnward : Room := { frames := 2, cells := 0, slots := 0, locals := 43 }
abbrev rmX4_firstBest : Room := { frames := 3, cells := 0, slots := 0, locals := 66 }
abbrev rmX4_jumpFromChosen : Room := { frames := 2, cells := 0, slots := 0, locals := 43 }
abbrev rmX4_notesOf : Room := { frames := 1, cells := 0, slots := 0, locals := 22 }
abbrev rmX4_hasSameButtons : Room := { frames := 0, cells := 0, slots := 0, locals := 0 }
abbrev rmX4_lackOfAll : Room := { frames := 0, cells := 0, slots := 0, locals := 0 }
abbrev rmX4_extraOfAll : Room := { frames := 0, cells := 0, slots := 0, locals := 0 }
abbrev rmX4_buttonsOfAll : Room := { frames := 0, cells := 0, slots := 0, locals := 0 }
abbrev rmJ6_bitCount : Room := { frames := 0, cells := 0, slots := 0, locals := 0 }
end
section
/-! numbers, lists: the mathematics that both sides share (no machine here) -/
theorem up_ind {N : Nat} {P : Nat → Prop} (h : ∀ i, i ≤ N → (i < N → P (i + 1)) → P i) : ∀ i, i ≤ N → P i := by
  have key : ∀ n i, i + n = N → P i := by
    intro n
    induction n with
    | zero => intro i hi; exact h i (by omega) (fun q => by omega)
    | succ n ih => intro i hi; exact h i (by omega) (fun _ => ih (i + 1) (by omega))
  intro i hi
  exact key (N - i) i (by omega)
theorem dn_ind {P : Nat → Prop} (h : ∀ i, (∀ j, i = j + 1 → P j) → P i) : ∀ i, P i := by
  intro i
  induction i with
  | zero => exact h 0 (fun j hj => by omega)
  | succ n ih => exact h (n + 1) (fun j hj => by have : n = j := by omega
                                                 subst this; exact ih)
theorem zdiv_nn {x d : Int} (hx : 0 ≤ x) (hx2 : x < 2147483648) (hd : 0 < d) (hd2 : d < 2147483648) : zdiv x d = x / d := by
  obtain ⟨n, rfl⟩ := Int.eq_ofNat_of_zero_le hx
  obtain ⟨m, rfl⟩ := Int.eq_ofNat_of_zero_le (Int.le_of_lt hd)
  have h1 : n < 2 ^ 31 := by omega
  have h2 : m < 2 ^ 31 := by omega
  show (zI (n : Int) / zI (m : Int)).toInt = _
  rw [zI_nat, zI_nat, pk_div h1 (by omega) h2, nI_toInt (Nat.lt_of_le_of_lt (Nat.div_le_self n m) h1)]
  simp
theorem zrem_nn {x d : Int} (hx : 0 ≤ x) (hx2 : x < 2147483648) (hd : 0 < d) (hd2 : d < 2147483648) : zrem x d = x % d := by
  obtain ⟨n, rfl⟩ := Int.eq_ofNat_of_zero_le hx
  obtain ⟨m, rfl⟩ := Int.eq_ofNat_of_zero_le (Int.le_of_lt hd)
  have h1 : n < 2 ^ 31 := by omega
  have h2 : m < 2 ^ 31 := by omega
  show (zI (n : Int) - zI (n : Int) / zI (m : Int) * zI (m : Int)).toInt = _
  rw [zI_nat, zI_nat, pk_rem h1 (by omega) h2, nI_toInt (Nat.lt_of_le_of_lt (Nat.mod_le n m) h1)]
  simp
theorem zB_of (x : Int32) : zB x.toInt := zB_toInt x
theorem zandB (a b : Int) : zB (zand a b) := zB_toInt _
theorem zorB (a b : Int) : zB (zor a b) := zB_toInt _
theorem zxorB (a b : Int) : zB (zxor a b) := zB_toInt _
theorem zshlB (a b : Int) : zB (zshl a b) := zB_toInt _
theorem zshrB (a b : Int) : zB (zshr a b) := zB_toInt _
theorem zdivB (a b : Int) : zB (zdiv a b) := zB_toInt _
theorem zremB (a b : Int) : zB (zrem a b) := zB_toInt _
/-- the sound of a button, as the reference has it -/
def snd (base bt : Int) : Int :=
  let r := zrem (base + 7 * zdiv bt 6) 12
  if zrem bt 6 = 0 then zshl 1 (zrem (r + 4) 12)
  else if zrem bt 6 = 1 then zshl 1 r
  else if zrem bt 6 = 2 then zor (zor (zshl 1 r) (zshl 1 (zrem (r + 4) 12))) (zshl 1 (zrem (r + 7) 12))
  else if zrem bt 6 = 3 then zor (zor (zshl 1 r) (zshl 1 (zrem (r + 3) 12))) (zshl 1 (zrem (r + 7) 12))
  else if zrem bt 6 = 4 then zor (zor (zshl 1 r) (zshl 1 (zrem (r + 4) 12))) (zshl 1 (zrem (r + 10) 12))
  else zor (zor (zshl 1 r) (zshl 1 (zrem (r + 3) 12))) (zshl 1 (zrem (r + 9) 12))
/-- and as the class has it -/
def sndC (base bt : Int) : Int :=
  zand (zor (zshl (z_rowN (zrem bt 6).toNat) (zrem (base + 7 * zdiv bt 6) 12)) (zshr (z_rowN (zrem bt 6).toNat) (12 - zrem (base + 7 * zdiv bt 6) 12))) 4095
theorem snd_tab : ∀ b : Nat, b < 12 → ∀ k : Nat, k < 72 → sndC b k = snd b k ∧ 0 < snd b k ∧ snd b k ≤ 4095 := by decide +kernel
abbrev thr (rows bt : Int) : Prop := zand (zshr rows (zrem bt 6)) 1 = 1
theorem snd_eq {base : Int} {k : Nat} (h0 : 0 ≤ base) (h1 : base < 12) (hk : k < 72) : sndC base k = snd base k ∧ 0 < snd base k ∧ snd base k ≤ 4095 := by
  obtain ⟨n, rfl⟩ := Int.eq_ofNat_of_zero_le h0
  exact snd_tab n (by omega) k hk
/-- ordered insertion, the first twenty -/
def oi (a : Int) : List Int → List Int
  | [] => [a]
  | x :: xs => if a < x then a :: x :: xs else x :: oi a xs
def gins (c : Int) (xs : List Int) : List Int := (oi c xs).take 20
theorem oi_comm (a b : Int) : ∀ xs : List Int, oi a (oi b xs) = oi b (oi a xs)
  | [] => by
    simp only [oi]
    by_cases h1 : a < b
    · rw [if_pos h1, if_neg (by omega)]
    · by_cases h2 : b < a
      · rw [if_neg h1, if_pos h2]
      · rw [if_neg h1, if_neg h2, show a = b by omega]
  | x :: xs => by
    by_cases ha : a < x
    · by_cases hb : b < x
      · simp only [oi, if_pos ha, if_pos hb]
        by_cases h1 : a < b
        · rw [if_pos h1, if_neg (by omega)]
        · by_cases h2 : b < a
          · rw [if_neg h1, if_pos h2]
          · rw [if_neg h1, if_neg h2, show a = b by omega]
      · simp only [oi, if_pos ha, if_neg hb]
        rw [if_neg (by omega)]
    · by_cases hb : b < x
      · simp only [oi, if_neg ha, if_pos hb]
        rw [if_neg (by omega)]
      · simp only [oi, if_neg ha, if_neg hb]
        rw [oi_comm a b xs]
theorem take_oi (a : Int) : ∀ (n : Nat) (xs : List Int), (oi a (xs.take n)).take n = (oi a xs).take n
  | 0, _ => by simp
  | n + 1, [] => by simp
  | n + 1, x :: xs => by
    simp only [List.take_succ_cons, oi]
    by_cases h : a < x
    · rw [if_pos h, if_pos h]
      cases n with
      | zero => simp
      | succ m => simp [List.take_take, Nat.min_eq_left]
    · rw [if_neg h, if_neg h]
      simp only [List.take_succ_cons]
      rw [take_oi a n xs]
theorem gins_comm (a b : Int) (xs : List Int) : gins a (gins b xs) = gins b (gins a xs) := by
  unfold gins
  rw [take_oi, take_oi, oi_comm]
abbrev GSt : Type := Int × List Int
def gstep (s : GSt) (q : Int × Int) : GSt := if q.1 < s.1 then (q.1, [q.2]) else if q.1 = s.1 then (s.1, gins q.2 s.2) else s
theorem gins_nil (c : Int) : gins c [] = [c] := rfl
theorem gstep_comm (s : GSt) (x y : Int × Int) : gstep (gstep s x) y = gstep (gstep s y) x := by
  obtain ⟨r, xs⟩ := s
  obtain ⟨p, a⟩ := x
  obtain ⟨q, b⟩ := y
  have h0 : gins b [a] = gins a [b] := by rw [← gins_nil a, ← gins_nil b, gins_comm]
  by_cases h1 : p < r
  · by_cases h2 : q < r
    · by_cases h3 : p < q
      · simp [gstep, h1, h2, h3, show ¬ q < p by omega, show ¬ q = p by omega]
      · by_cases h4 : q < p
        · simp [gstep, h1, h2, h3, h4, show ¬ p = q by omega]
        · have : p = q := by omega
          subst this
          simp [gstep, h1, h0]
    · by_cases h3 : q = r
      · subst h3
        simp [gstep, h1, show ¬ q < p by omega, show ¬ q = p by omega]
      · simp [gstep, h1, h2, h3, show ¬ q < p by omega, show ¬ q = p by omega]
  · by_cases h2 : q < r
    · by_cases h3 : p = r
      · subst h3
        simp [gstep, h2, show ¬ p < q by omega, show ¬ p = q by omega]
      · simp [gstep, h1, h2, h3, show ¬ p < q by omega, show ¬ p = q by omega]
    · by_cases h3 : p = r
      · by_cases h4 : q = r
        · simp [gstep, h3, h4, gins_comm]
        · simp [gstep, h3, h2, h4]
      · by_cases h4 : q = r
        · simp [gstep, h1, h3, h4]
        · simp [gstep, h1, h2, h3, h4]
theorem gfold_perm {l₁ l₂ : List (Int × Int)} (h : List.Perm l₁ l₂) : ∀ s : GSt, l₁.foldl gstep s = l₂.foldl gstep s := by
  induction h with
  | nil => intro s; rfl
  | cons x _ ih => intro s; exact ih _
  | swap x y l => intro s; simp only [List.foldl_cons]; rw [gstep_comm]
  | trans _ _ ih1 ih2 => intro s; rw [ih1, ih2]
/-- sorted -/
abbrev srtd (xs : List Int) : Prop := xs.Pairwise (· ≤ ·)
theorem oi_mem {a b : Int} : ∀ {xs : List Int}, b ∈ oi a xs → b = a ∨ b ∈ xs
  | [], h => Or.inl (List.mem_singleton.mp h)
  | x :: xs, h => by
    unfold oi at h
    by_cases e : a < x
    · rw [if_pos e] at h
      rcases List.mem_cons.mp h with h | h
      · exact Or.inl h
      · exact Or.inr h
    · rw [if_neg e] at h
      rcases List.mem_cons.mp h with h | h
      · exact Or.inr (h ▸ List.mem_cons_self)
      · rcases oi_mem h with h | h
        · exact Or.inl h
        · exact Or.inr (List.mem_cons_of_mem _ h)
theorem oi_srtd {a : Int} : ∀ {xs : List Int}, srtd xs → srtd (oi a xs)
  | [], _ => by simp [oi, srtd]
  | x :: xs, h => by
    unfold oi
    have h1 := List.pairwise_cons.mp h
    by_cases e : a < x
    · rw [if_pos e]
      refine List.pairwise_cons.mpr ⟨fun b hb => ?_, h⟩
      rcases List.mem_cons.mp hb with hb | hb
      · omega
      · have := h1.1 b hb; omega
    · rw [if_neg e]
      refine List.pairwise_cons.mpr ⟨fun b hb => ?_, oi_srtd h1.2⟩
      rcases oi_mem hb with hb | hb
      · omega
      · exact h1.1 b hb
theorem gins_srtd {a : Int} {xs : List Int} (h : srtd xs) : srtd (gins a xs) := List.Pairwise.sublist (List.take_sublist _ _) (oi_srtd h)
theorem oi_len (a : Int) : ∀ xs : List Int, (oi a xs).length = xs.length + 1
  | [] => rfl
  | x :: xs => by
    unfold oi
    by_cases e : a < x
    · rw [if_pos e]; rfl
    · rw [if_neg e]; simp only [List.length_cons, oi_len a xs]
theorem gins_len (a : Int) (xs : List Int) : (gins a xs).length = min (xs.length + 1) 20 := by
  unfold gins
  rw [List.length_take, oi_len]; omega
/-- where it comes to stand -/
theorem oi_at {c : Int} : ∀ (xs : List Int) (p : Nat), p ≤ xs.length → (∀ j, j < p → xs.getD j 0 ≤ c) → (∀ j, p ≤ j → j < xs.length → c < xs.getD j 0) → oi c xs = xs.take p ++ c :: xs.drop p
  | [], p, hp, _, _ => by
    have : p = 0 := by simpa using hp
    subst this
    rfl
  | x :: xs, 0, _, _, h2 => by
    have : c < x := by simpa using h2 0 (Nat.le_refl _) (by simp)
    unfold oi
    rw [if_pos this]
    rfl
  | x :: xs, p + 1, hp, h1, h2 => by
    have : ¬ c < x := by have := h1 0 (by omega); simp at this; omega
    unfold oi
    rw [if_neg this, oi_at xs p (by simpa using hp) (fun j hj => by simpa using h1 (j + 1) (by omega)) (fun j hj hl => by simpa using h2 (j + 1) (by omega) (by simpa using hl))]
    simp
theorem gins_get {c : Int} {xs : List Int} {p : Nat} (hp : p ≤ xs.length) (h1 : ∀ j, j < p → xs.getD j 0 ≤ c) (h2 : ∀ j, p ≤ j → j < xs.length → c < xs.getD j 0) (k : Nat) (hk : k < (gins c xs).length) :
    (gins c xs).getD k 0 = if k < p then xs.getD k 0 else if k = p then c else xs.getD (k - 1) 0 := by
  rw [gins_len] at hk
  have hk2 : k < 20 := by omega
  unfold gins
  rw [oi_at xs p hp h1 h2]
  simp only [List.getD_eq_getElem?_getD]
  rw [List.getElem?_take_of_lt hk2]
  by_cases e : k < p
  · rw [if_pos e, List.getElem?_append_left (by simp; omega), List.getElem?_take_of_lt e]
  · rw [if_neg e, List.getElem?_append_right (by simp; omega)]
    rw [List.length_take, Nat.min_eq_left hp]
    by_cases e2 : k = p
    · rw [if_pos e2, e2, Nat.sub_self]; rfl
    · rw [if_neg e2]
      obtain ⟨q, hq⟩ : ∃ q, k - p = q + 1 := ⟨k - p - 1, by omega⟩
      rw [hq, List.getElem?_cons_succ, List.getElem?_drop, show p + q = k - 1 by omega]
theorem srtd_le {xs : List Int} (h : srtd xs) {i j : Nat} (hij : i ≤ j) (hj : j < xs.length) : xs.getD i 0 ≤ xs.getD j 0 := by
  rcases Nat.lt_or_ge i j with hlt | hge
  · have := List.pairwise_iff_getElem.mp h i j (by omega) hj hlt
    simp only [List.getD_eq_getElem?_getD, List.getElem?_eq_getElem (show i < xs.length by omega), List.getElem?_eq_getElem hj, Option.getD_some]
    exact this
  · have : i = j := by omega
    rw [this]; exact Int.le_refl _
end
section
/-! bits -/
theorem zI_natB {n : Nat} (h : n < 2 ^ 31) : (zI (n : Int)).toBitVec.toNat = n := by
  rw [zI_nat]; exact pk_tn (by omega)
theorem toInt_small {x : Int32} {n : Nat} (h : x.toBitVec.toNat = n) (hn : n < 2 ^ 31) : x.toInt = (n : Int) := by
  have : x = nI n := by
    apply Int32.toBitVec_inj.mp
    apply BitVec.eq_of_toNat_eq
    rw [h, pk_tn (by omega)]
  rw [this, nI_toInt hn]
theorem zor_nat {a b : Nat} (ha : a < 2 ^ 31) (hb : b < 2 ^ 31) : zor a b = ((a ||| b : Nat) : Int) := by
  refine toInt_small ?_ (Nat.or_lt_two_pow ha hb)
  rw [Int32.toBitVec_or, BitVec.toNat_or, zI_natB ha, zI_natB hb]
theorem zand_nat {a : Nat} (ha : a < 2 ^ 31) (y : Int) : ∃ m : Nat, m ≤ a ∧ zand a y = (m : Int) := by
  refine ⟨a &&& (zI y).toBitVec.toNat, Nat.and_le_left, ?_⟩
  refine toInt_small ?_ (Nat.lt_of_le_of_lt Nat.and_le_left ha)
  rw [Int32.toBitVec_and, BitVec.toNat_and, zI_natB ha]
theorem zand_le {a y : Int} (h0 : 0 ≤ a) (h1 : a ≤ 4095) : 0 ≤ zand a y ∧ zand a y ≤ 4095 := by
  obtain ⟨n, rfl⟩ := Int.eq_ofNat_of_zero_le h0
  obtain ⟨m, hm, e⟩ := zand_nat (a := n) (by omega) y
  rw [show zand (n : Int) y = (m : Int) from e]
  omega
theorem zshl_nat {a k : Nat} (hk : k < 31) (h : a * 2 ^ k < 2 ^ 31) : zshl a k = ((a * 2 ^ k : Nat) : Int) := by
  have e : ∀ k : Nat, k < 31 → ((zI (k : Int) &&& 31).toBitVec.smod 32).toNat = k := by decide +kernel
  show (zI (a : Int) <<< (zI (k : Int) &&& 31)).toInt = _
  rw [zI_nat a, pk_shlN _ k (e k hk) (by omega), nI_toInt h]
theorem zshr_nat {a k : Nat} (hk : k < 31) (h : a < 2 ^ 31) : zshr a k = ((a / 2 ^ k : Nat) : Int) := by
  have e : ∀ k : Nat, k < 31 → ((zI (k : Int) &&& 31).toBitVec.smod 32).toNat = k := by decide +kernel
  show (zI (a : Int) >>> (zI (k : Int) &&& 31)).toInt = _
  rw [zI_nat a, pk_shrN h _ k (e k hk), nI_toInt (Nat.lt_of_le_of_lt (Nat.div_le_self _ _) h)]
/-- a shift and what is put into the places that came free -/
theorem zcat {a b : Int} (k : Nat) (hk : k < 31) (ha : 0 ≤ a) (hb : 0 ≤ b) (hb2 : b < 2 ^ k) (h : (a + 1) * 2 ^ k ≤ 2 ^ 31) : zor (zshl a (k : Int)) b = a * 2 ^ k + b := by
  obtain ⟨n, rfl⟩ := Int.eq_ofNat_of_zero_le ha
  obtain ⟨m, rfl⟩ := Int.eq_ofNat_of_zero_le hb
  have hp : 0 < 2 ^ k := Nat.two_pow_pos k
  have h1 : (n + 1) * 2 ^ k ≤ 2 ^ 31 := by exact_mod_cast h
  have hm : m < 2 ^ k := by exact_mod_cast hb2
  have h2 : n * 2 ^ k + 2 ^ k ≤ 2 ^ 31 := by rw [Nat.add_mul, Nat.one_mul] at h1; exact h1
  rw [zshl_nat hk (by omega), zor_nat (by omega) (by omega)]
  have e : n * 2 ^ k ||| m = n * 2 ^ k + m := by
    rw [← Nat.shiftLeft_eq, ← Nat.shiftLeft_add_eq_or_of_lt hm]
  rw [e]
  push_cast
  rfl
theorem zcat7 {a b : Int} (ha : 0 ≤ a) (ha2 : a < 16384) (hb : 0 ≤ b) (hb2 : b < 128) : zor (zshl a 7) b = a * 128 + b := zcat 7 (by decide) ha hb (by omega) (by omega)
theorem zcat4 {a b : Int} (ha : 0 ≤ a) (ha2 : a < 65536) (hb : 0 ≤ b) (hb2 : b < 16) : zor (zshl a 4) b = a * 16 + b := zcat 4 (by decide) ha hb (by omega) (by omega)
theorem zor0 {b : Int} (h : zB b) : zor 0 b = b := by
  show (zI 0 ||| zI b).toInt = b
  have : zI 0 = 0 := by decide
  rw [this, Int32.zero_or, zI_toInt h]
theorem zor_le {a b : Int} (h0 : 0 ≤ a) (h1 : a ≤ 4095) (h2 : 0 ≤ b) (h3 : b ≤ 4095) : 0 ≤ zor a b ∧ zor a b ≤ 4095 := by
  obtain ⟨n, rfl⟩ := Int.eq_ofNat_of_zero_le h0
  obtain ⟨m, rfl⟩ := Int.eq_ofNat_of_zero_le h2
  rw [zor_nat (by omega) (by omega)]
  have : n ||| m < 2 ^ 12 := Nat.or_lt_two_pow (by omega) (by omega)
  omega
/-- how many bits of the twelve -/
def onesN (x : Int) : Nat → Int
  | 0 => 0
  | n + 1 => onesN x n + zand (zshr x n) 1
abbrev ones (x : Int) : Int := onesN x 12
theorem zand1_01 (x : Int) : zand x 1 = 0 ∨ zand x 1 = 1 := by
  have hc : zand x 1 = zand ((1 : Nat) : Int) x := by
    show (zI x &&& zI 1).toInt = (zI ((1 : Nat) : Int) &&& zI x).toInt
    rw [Int32.and_comm]; rfl
  obtain ⟨m, hm, e⟩ := zand_nat (a := 1) (by omega) x
  rw [hc, e]
  omega
theorem onesN_le (x : Int) : ∀ n : Nat, 0 ≤ onesN x n ∧ onesN x n ≤ n
  | 0 => by simp [onesN]
  | n + 1 => by
    have := onesN_le x n
    unfold onesN
    rcases zand1_01 (zshr x n) with h | h <;> rw [h] <;> omega
theorem ones_le (x : Int) : 0 ≤ ones x ∧ ones x ≤ 12 := by
  have := onesN_le x 12
  exact ⟨this.1, by exact_mod_cast this.2⟩
def bcZ (x : Int) : Int :=
  let a := x - zand (zushr x 1) 1431655765
  let b := zand a 858993459 + zand (zushr a 2) 858993459
  let c := zand (b + zushr b 4) 252645135
  let d := c + zushr c 8
  zand (d + zushr d 16) 63
set_option maxRecDepth 20000 in
theorem bc_tab : ∀ n : Nat, n < 4096 → bcZ n = ones n := by decide +kernel
theorem bc_eq {x : Int} (h0 : 0 ≤ x) (h1 : x ≤ 4095) : bcZ x = ones x := by
  obtain ⟨n, rfl⟩ := Int.eq_ofNat_of_zero_le h0
  exact bc_tab n (by omega)
/-- what lacks of w, of what n sounds -/
abbrev zless (w n : Int) : Int := zand w (zxor n (-1))
def rnk (w n b : Int) : Int := (ones (zless w n) * 16 + ones (zless n w)) * 16 + b
theorem rnk_le {w n b : Int} (h0 : 0 ≤ b) (h1 : b ≤ 2) : 0 ≤ rnk w n b ∧ rnk w n b ≤ 3300 := by
  have h2 := ones_le (zless w n)
  have h3 := ones_le (zless n w)
  unfold rnk
  omega
/-- a setting's code: its buttons rising, seven bits each, -1 is none -/
def pkA (x y z : Int) : Int :=
  (max (min x (min y z)) 0 * 128 + max (x + y + z - min x (min y z) - max x (max y z)) 0) * 128 + max (max x (max y z)) 0
abbrev bt1 (x : Int) : Prop := -1 ≤ x ∧ x ≤ 71
theorem pkA_le {x y z : Int} (hx : bt1 x) (hy : bt1 y) (hz : bt1 z) : 0 ≤ pkA x y z ∧ pkA x y z < 2097152 := by
  unfold pkA
  obtain ⟨h1, h2⟩ := hx
  obtain ⟨h3, h4⟩ := hy
  obtain ⟨h5, h6⟩ := hz
  omega
def okL (xs : List Int) : Prop := srtd xs ∧ xs.length ≤ 20 ∧ ∀ y ∈ xs, 0 ≤ y ∧ y < 2097152
theorem okL_nil : okL [] := ⟨List.Pairwise.nil, by simp, fun y h => by cases h⟩
theorem okL_gins {xs : List Int} {c : Int} (h : okL xs) (h0 : 0 ≤ c) (h1 : c < 2097152) : okL (gins c xs) := by
  refine ⟨gins_srtd h.1, by rw [gins_len]; omega, fun y hy => ?_⟩
  rcases oi_mem (List.mem_of_mem_take hy) with e | e
  · rw [e]; exact ⟨h0, h1⟩
  · exact h.2.2 y e
theorem okL_at {xs : List Int} (h : okL xs) {k : Nat} (hk : k < xs.length) : 0 ≤ xs.getD k 0 ∧ xs.getD k 0 < 2097152 := by
  rw [List.getD_eq_getElem?_getD, List.getElem?_eq_getElem hk]
  exact h.2.2 _ (List.getElem_mem hk)
/-- the buttons that a setting may have for its low note: -1 is none -/
def lowsOf (c b : Int) : List Int := if c = -1 ∧ b = -1 then [-1] else (if c = -1 then [] else [c]) ++ (if b = -1 then [] else [b])
def addLows (f z : Int) (ls : List Int) (xs : List Int) : List Int := ls.foldl (fun xs l => gins (pkA l f z) xs) xs
def offS (r f z : Int) (ls : List Int) (s : GSt) : GSt := ls.foldl (fun s l => gstep s (r, pkA l f z)) s
theorem okL_add {f z : Int} (hf : bt1 f) (hz : bt1 z) : ∀ (ls : List Int) {xs : List Int}, (∀ l ∈ ls, bt1 l) → okL xs → okL (addLows f z ls xs)
  | [], _, _, h => h
  | l :: ls, xs, hl, h => okL_add hf hz ls (fun q hq => hl q (List.mem_cons_of_mem _ hq)) (okL_gins h (pkA_le (hl l List.mem_cons_self) hf hz).1 (pkA_le (hl l List.mem_cons_self) hf hz).2)
theorem lowsOf_bt {c b : Int} (hc : bt1 c) (hb : bt1 b) : ∀ l ∈ lowsOf c b, bt1 l := by
  intro l hl
  unfold lowsOf at hl
  split at hl
  · rw [List.mem_singleton.mp hl]; decide
  · rcases List.mem_append.mp hl with h | h
    · split at h
      · cases h
      · rw [List.mem_singleton.mp h]; exact hc
    · split at h
      · cases h
      · rw [List.mem_singleton.mp h]; exact hb
theorem lowsOf_ne (c b : Int) : lowsOf c b ≠ [] := by
  unfold lowsOf
  split
  · simp
  · split <;> split <;> simp_all
theorem offS_eq {r f z : Int} : ∀ (ls : List Int) (xs : List Int), ls.foldl (fun s l => gstep s (r, pkA l f z)) (r, xs) = (r, addLows f z ls xs)
  | [], _ => rfl
  | l :: ls, xs => by
    have e : gstep (r, xs) (r, pkA l f z) = (r, gins (pkA l f z) xs) := by simp [gstep]
    simp only [List.foldl_cons, e, addLows]
    exact offS_eq ls _
theorem offS_lt {r f z : Int} {ls : List Int} {s : GSt} (hn : ls ≠ []) (h : r < s.1) : offS r f z ls s = (r, addLows f z ls []) := by
  cases ls with
  | nil => exact absurd rfl hn
  | cons l ls =>
    have e : gstep s (r, pkA l f z) = (r, [pkA l f z]) := by simp [gstep, h]
    simp only [offS, List.foldl_cons, e, addLows, gins_nil]
    exact offS_eq ls _
theorem offS_same {r f z : Int} {ls : List Int} {s : GSt} (h : r = s.1) : offS r f z ls s = (r, addLows f z ls s.2) := by
  obtain ⟨a, xs⟩ := s
  cases h
  exact offS_eq ls xs
theorem offS_gt {r f z : Int} : ∀ {ls : List Int} {s : GSt}, s.1 < r → offS r f z ls s = s
  | [], _, _ => rfl
  | l :: ls, s, h => by
    have e : gstep s (r, pkA l f z) = s := by simp [gstep, show ¬ r < s.1 by omega, show ¬ r = s.1 by omega]
    simp only [offS, List.foldl_cons, e]
    exact offS_gt h
end
section
def bz (p : Prop) [Decidable p] : Int := if p then 1 else 0
theorem gx_sub {G : gx_G} {X : gx_X} {nL : Nat} {I : gx_I} {pc : Nat} {lv lv1 : List (Nat × Value)} {st : List Value} (ks : List Nat) (h : lv_pick lv ks = lv1) (kk : gx_WG G X nL I pc lv1 st) : gx_WG G X nL I pc lv st := fun H locs ls hP hS hl => kk H locs ls hP hS (lv_sub hl ks h)
theorem bz_1 {p : Prop} [Decidable p] : bz p = 1 ↔ p := by unfold bz; split <;> simp_all
theorem bz_0 {p : Prop} [Decidable p] : bz p = 0 ↔ ¬ p := by unfold bz; split <;> simp_all
theorem bz_01 (p : Prop) [Decidable p] : bz p = 0 ∨ bz p = 1 := by unfold bz; split <;> simp
theorem mX6_in {l : Launch} {G : gx_G} (hG : gx_OK G 91) (J : zJ) {v a b : Int} (hv : zB v) (ha : zB a) (hb : zB b) : zMi l G yX6_in cX6_in 3 .boolean rmX6_in [.int (zI v), .int (zI a), .int (zI b)] J (fun r J' => r = bz (a ≤ v ∧ v ≤ b) ∧ J' = J) := by
  refine gx_mi hG (by decide) (Nat.le_of_ble_eq_true rfl) (fun X hla B Rt => ?_)
  subst hla
  have B : gx_B G X RX6 cX6_in 3 rmX6_in 91 := B
  show gx_WG G X 3 (zh J) 0 [(0, .int (zI v)), (1, .int (zI a)), (2, .int (zI b))] []
  refine gx_iload_n B dX6_in_0 rfl rfl ?_
  refine gx_iload_n B dX6_in_1 rfl rfl ?_
  refine z_icmp_lt (tgt := 14) B dX6_in_2 ⟨by omega, by omega⟩ ⟨by omega, by omega⟩ (by decide) (fun c2_1 => ?_) (fun c2_1 => ?_)
  · refine z_iconst B dX6_in_14 ?_
    refine z_iretz B Rt dX6_in_15 (by decide) ?_
    exact ⟨by unfold bz; split <;> omega, rfl⟩
  · refine gx_iload_n B dX6_in_5 rfl rfl ?_
    refine gx_iload_n B dX6_in_6 rfl rfl ?_
    refine z_icmp_gt (tgt := 14) B dX6_in_7 ⟨by omega, by omega⟩ ⟨by omega, by omega⟩ (by decide) (fun c7_2 => ?_) (fun c7_2 => ?_)
    · refine z_iconst B dX6_in_14 ?_
      refine z_iretz B Rt dX6_in_15 (by decide) ?_
      exact ⟨by unfold bz; split <;> omega, rfl⟩
    · refine z_iconst B dX6_in_10 ?_
      refine gx_goto (tgt := 15) B dX6_in_11 (by decide) ?_
      refine z_iretz B Rt dX6_in_15 (by decide) ?_
      exact ⟨by unfold bz; split <;> omega, rfl⟩

theorem bzB (p : Prop) [Decidable p] : zB (bz p) := by unfold bz; split <;> decide
theorem mX5_isSystem {l : Launch} {G : gx_G} (hG : gx_OK G 76) (J : zJ) {a b : Int} (ha : zB a) (hb : zB b) : zMi l G yX5_isSystem cX5_isSystem 2 .boolean rmX5_isSystem [.int (zI a), .int (zI b)] J (fun r J' => r = bz (0 ≤ a ∧ a < 12 ∧ 0 ≤ b ∧ b ≤ 63) ∧ J' = J) := by
  refine gx_mi hG (by decide) (Nat.le_of_ble_eq_true rfl) (fun X hla B Rt => ?_)
  subst hla
  have B : gx_B G X RX5 cX5_isSystem 2 rmX5_isSystem 76 := B
  show gx_WG G X 2 (zh J) 0 [(0, .int (zI a)), (1, .int (zI b))] []
  refine gx_iload_n B dX5_isSystem_0 rfl rfl ?_
  refine z_if_lt (tgt := 24) B dX5_isSystem_1 ⟨by omega, by omega⟩ (by decide) (fun c1_1 => ?_) (fun c1_1 => ?_)
  · refine z_iconst B dX5_isSystem_24 ?_
    refine z_iretz B Rt dX5_isSystem_25 (by decide) ?_
    exact ⟨by unfold bz; split <;> omega, rfl⟩
  · refine gx_iload_n B dX5_isSystem_4 rfl rfl ?_
    refine z_bipush B dX5_isSystem_5 (by decide) ?_
    refine z_icmp_ge (tgt := 24) B dX5_isSystem_7 ⟨by omega, by omega⟩ ⟨by omega, by omega⟩ (by decide) (fun c7_2 => ?_) (fun c7_2 => ?_)
    · refine z_iconst B dX5_isSystem_24 ?_
      refine z_iretz B Rt dX5_isSystem_25 (by decide) ?_
      exact ⟨by unfold bz; split <;> omega, rfl⟩
    · refine gx_iload_n B dX5_isSystem_10 rfl rfl ?_
      refine z_if_lt (tgt := 24) B dX5_isSystem_11 ⟨by omega, by omega⟩ (by decide) (fun c11_3 => ?_) (fun c11_3 => ?_)
      · refine z_iconst B dX5_isSystem_24 ?_
        refine z_iretz B Rt dX5_isSystem_25 (by decide) ?_
        exact ⟨by unfold bz; split <;> omega, rfl⟩
      · refine gx_iload_n B dX5_isSystem_14 rfl rfl ?_
        refine z_bipush B dX5_isSystem_15 (by decide) ?_
        refine z_icmp_gt (tgt := 24) B dX5_isSystem_17 ⟨by omega, by omega⟩ ⟨by omega, by omega⟩ (by decide) (fun c17_4 => ?_) (fun c17_4 => ?_)
        · refine z_iconst B dX5_isSystem_24 ?_
          refine z_iretz B Rt dX5_isSystem_25 (by decide) ?_
          exact ⟨by unfold bz; split <;> omega, rfl⟩
        · refine z_iconst B dX5_isSystem_20 ?_
          refine gx_goto (tgt := 25) B dX5_isSystem_21 (by decide) ?_
          refine z_iretz B Rt dX5_isSystem_25 (by decide) ?_
          exact ⟨by unfold bz; split <;> omega, rfl⟩

theorem mX5_isBeat {l : Launch} {G : gx_G} (hG : gx_OK G 76) (J : zJ) {a b c d : Int} (ha : zB a) (hb : zB b) (hc : zB c) (hd : zB d) : zMi l G yX5_isBeat cX5_isBeat 4 .boolean rmX5_isBeat [.int (zI a), .int (zI b), .int (zI c), .int (zI d)] J (fun r J' => r = bz ((0 ≤ a ∧ a ≤ 4095) ∧ (-1 ≤ b ∧ b ≤ 11) ∧ (1 ≤ c ∧ c ≤ 8) ∧ (0 ≤ d ∧ d ≤ 3)) ∧ J' = J) := by
  refine gx_mi hG (by decide) (Nat.le_of_ble_eq_true rfl) (fun X hla B Rt => ?_)
  subst hla
  have B : gx_B G X RX5 cX5_isBeat 4 rmX5_isBeat 76 := B
  show gx_WG G X 4 (zh J) 0 [(0, .int (zI a)), (1, .int (zI b)), (2, .int (zI c)), (3, .int (zI d))] []
  refine gx_iload_n B dX5_isBeat_0 rfl rfl ?_
  refine z_if_lt (tgt := 46) B dX5_isBeat_1 ⟨by omega, by omega⟩ (by decide) (fun c1_1 => ?_) (fun c1_1 => ?_)
  · refine z_iconst B dX5_isBeat_46 ?_
    refine z_iretz B Rt dX5_isBeat_47 (by decide) ?_
    exact ⟨by unfold bz; split <;> omega, rfl⟩
  · refine gx_iload_n B dX5_isBeat_4 rfl rfl ?_
    refine z_sipush B dX5_isBeat_5 (by decide) ?_
    refine z_icmp_gt (tgt := 46) B dX5_isBeat_8 ⟨by omega, by omega⟩ ⟨by omega, by omega⟩ (by decide) (fun c8_2 => ?_) (fun c8_2 => ?_)
    · refine z_iconst B dX5_isBeat_46 ?_
      refine z_iretz B Rt dX5_isBeat_47 (by decide) ?_
      exact ⟨by unfold bz; split <;> omega, rfl⟩
    · refine gx_iload_n B dX5_isBeat_11 rfl rfl ?_
      refine z_iconst B dX5_isBeat_12 ?_
      refine z_icmp_lt (tgt := 46) B dX5_isBeat_13 ⟨by omega, by omega⟩ ⟨by omega, by omega⟩ (by decide) (fun c13_3 => ?_) (fun c13_3 => ?_)
      · refine z_iconst B dX5_isBeat_46 ?_
        refine z_iretz B Rt dX5_isBeat_47 (by decide) ?_
        exact ⟨by unfold bz; split <;> omega, rfl⟩
      · refine gx_iload_n B dX5_isBeat_16 rfl rfl ?_
        refine z_bipush B dX5_isBeat_17 (by decide) ?_
        refine z_icmp_ge (tgt := 46) B dX5_isBeat_19 ⟨by omega, by omega⟩ ⟨by omega, by omega⟩ (by decide) (fun c19_4 => ?_) (fun c19_4 => ?_)
        · refine z_iconst B dX5_isBeat_46 ?_
          refine z_iretz B Rt dX5_isBeat_47 (by decide) ?_
          exact ⟨by unfold bz; split <;> omega, rfl⟩
        · refine gx_iload_n B dX5_isBeat_22 rfl rfl ?_
          refine z_iconst B dX5_isBeat_23 ?_
          refine z_icmp_lt (tgt := 46) B dX5_isBeat_24 ⟨by omega, by omega⟩ ⟨by omega, by omega⟩ (by decide) (fun c24_5 => ?_) (fun c24_5 => ?_)
          · refine z_iconst B dX5_isBeat_46 ?_
            refine z_iretz B Rt dX5_isBeat_47 (by decide) ?_
            exact ⟨by unfold bz; split <;> omega, rfl⟩
          · refine gx_iload_n B dX5_isBeat_27 rfl rfl ?_
            refine z_bipush B dX5_isBeat_28 (by decide) ?_
            refine z_icmp_gt (tgt := 46) B dX5_isBeat_30 ⟨by omega, by omega⟩ ⟨by omega, by omega⟩ (by decide) (fun c30_6 => ?_) (fun c30_6 => ?_)
            · refine z_iconst B dX5_isBeat_46 ?_
              refine z_iretz B Rt dX5_isBeat_47 (by decide) ?_
              exact ⟨by unfold bz; split <;> omega, rfl⟩
            · refine gx_iload_n B dX5_isBeat_33 rfl rfl ?_
              refine z_if_lt (tgt := 46) B dX5_isBeat_34 ⟨by omega, by omega⟩ (by decide) (fun c34_7 => ?_) (fun c34_7 => ?_)
              · refine z_iconst B dX5_isBeat_46 ?_
                refine z_iretz B Rt dX5_isBeat_47 (by decide) ?_
                exact ⟨by unfold bz; split <;> omega, rfl⟩
              · refine gx_iload_n B dX5_isBeat_37 rfl rfl ?_
                refine z_iconst B dX5_isBeat_38 ?_
                refine z_icmp_gt (tgt := 46) B dX5_isBeat_39 ⟨by omega, by omega⟩ ⟨by omega, by omega⟩ (by decide) (fun c39_8 => ?_) (fun c39_8 => ?_)
                · refine z_iconst B dX5_isBeat_46 ?_
                  refine z_iretz B Rt dX5_isBeat_47 (by decide) ?_
                  exact ⟨by unfold bz; split <;> omega, rfl⟩
                · refine z_iconst B dX5_isBeat_42 ?_
                  refine gx_goto (tgt := 47) B dX5_isBeat_43 (by decide) ?_
                  refine z_iretz B Rt dX5_isBeat_47 (by decide) ?_
                  exact ⟨by unfold bz; split <;> omega, rfl⟩

theorem mX5_rootOf {l : Launch} {G : gx_G} (hG : gx_OK G 76) (J : zJ) {a b : Int} : zMi l G yX5_rootOf cX5_rootOf 2 .int rmX5_rootOf [.int (zI a), .int (zI b)] J (fun r J' => r = zrem (a + 7 * b) 12 ∧ J' = J) := by
  refine gx_mi hG (by decide) (Nat.le_of_ble_eq_true rfl) (fun X hla B Rt => ?_)
  subst hla
  have B : gx_B G X RX5 cX5_rootOf 2 rmX5_rootOf 76 := B
  show gx_WG G X 2 (zh J) 0 [(0, .int (zI a)), (1, .int (zI b))] []
  refine gx_iload_n B dX5_rootOf_0 rfl rfl ?_
  refine z_bipush B dX5_rootOf_1 (by decide) ?_
  refine gx_iload_n B dX5_rootOf_3 rfl rfl ?_
  refine z_imul B dX5_rootOf_4 ?_
  refine z_iadd B dX5_rootOf_5 ?_
  refine z_bipush B dX5_rootOf_6 (by decide) ?_
  refine z_irem B dX5_rootOf_8 (by decide) ?_
  refine z_ireti B Rt dX5_rootOf_9 ?_
  exact ⟨rfl, rfl⟩

theorem mX2_has {l : Launch} {G : gx_G} (hG : gx_OK G 76) (J : zJ) {d : Nat} (hd : isDesk d) {b : Int} (hb : zB b) (hn : zB (J d 5)) : zMi l G yX2_has cX2_has 2 .boolean rmX2_has [.ref (gx_ad G d), .int (zI b)] J (fun r J' => r = bz (0 ≤ b ∧ b < J d 5) ∧ J' = J) := by
  refine gx_mi hG (by decide) (Nat.le_of_ble_eq_true rfl) (fun X hla B Rt => ?_)
  subst hla
  have B : gx_B G X RX2 cX2_has 2 rmX2_has 76 := B
  show gx_WG G X 2 (zh J) 0 [(0, .ref (gx_ad G d)), (1, .int (zI b))] []
  refine gx_iload_n B dX2_has_0 rfl rfl ?_
  refine z_if_lt (tgt := 16) B dX2_has_1 ⟨by omega, by omega⟩ (by decide) (fun c1_1 => ?_) (fun c1_1 => ?_)
  · refine z_iconst B dX2_has_16 ?_
    refine z_iretz B Rt dX2_has_17 (by decide) ?_
    exact ⟨by unfold bz; split <;> omega, rfl⟩
  · refine gx_iload_n B dX2_has_4 rfl rfl ?_
    refine gx_aload_n B dX2_has_5 rfl rfl ?_
    refine z_geti B fl_X2_27 (kDesk hd) (bDesk hd) (zDesk5 hd) dX2_has_6 ?_
    refine z_icmp_ge (tgt := 16) B dX2_has_9 ⟨by omega, by omega⟩ ⟨by omega, by omega⟩ (by decide) (fun c9_2 => ?_) (fun c9_2 => ?_)
    · refine z_iconst B dX2_has_16 ?_
      refine z_iretz B Rt dX2_has_17 (by decide) ?_
      exact ⟨by unfold bz; split <;> omega, rfl⟩
    · refine z_iconst B dX2_has_12 ?_
      refine gx_goto (tgt := 17) B dX2_has_13 (by decide) ?_
      refine z_iretz B Rt dX2_has_17 (by decide) ?_
      exact ⟨by unfold bz; split <;> omega, rfl⟩

theorem mX0_hasWay {l : Launch} {G : gx_G} (hG : gx_OK G 76) (J : zJ) (hw : zB (J 11 3)) : zMi l G yX0_hasWay cX0_hasWay 1 .boolean rmX0_hasWay [.ref (gx_ad G 11)] J (fun r J' => r = bz (¬ J 11 3 = -1) ∧ J' = J) := by
  refine gx_mi hG (by decide) (Nat.le_of_ble_eq_true rfl) (fun X hla B Rt => ?_)
  subst hla
  have B : gx_B G X RX0 cX0_hasWay 1 rmX0_hasWay 76 := B
  show gx_WG G X 1 (zh J) 0 [(0, .ref (gx_ad G 11))] []
  refine gx_aload_n B dX0_hasWay_0 rfl rfl ?_
  refine z_geti B fl_X0_22 rfl (by decide) rfl dX0_hasWay_1 ?_
  refine z_iconst B dX0_hasWay_4 ?_
  refine z_icmp_eq (tgt := 12) B dX0_hasWay_5 ⟨by omega, by omega⟩ ⟨by omega, by omega⟩ (by decide) (fun c5_1 => ?_) (fun c5_1 => ?_)
  · refine z_iconst B dX0_hasWay_12 ?_
    refine z_iretz B Rt dX0_hasWay_13 (by decide) ?_
    exact ⟨by unfold bz; split <;> omega, rfl⟩
  · refine z_iconst B dX0_hasWay_8 ?_
    refine gx_goto (tgt := 13) B dX0_hasWay_9 (by decide) ?_
    refine z_iretz B Rt dX0_hasWay_13 (by decide) ?_
    exact ⟨by unfold bz; split <;> omega, rfl⟩

theorem mX1_raised {l : Launch} {G : gx_G} (hG : gx_OK G 76) (J : zJ) {a b : Int} : zMi l G yX1_raised cX1_raised 2 .int rmX1_raised [.int (zI a), .int (zI b)] J (fun r J' => r = zand (zor (zshl a b) (zshr a (12 - b))) 4095 ∧ J' = J) := by
  refine gx_mi hG (by decide) (Nat.le_of_ble_eq_true rfl) (fun X hla B Rt => ?_)
  subst hla
  have B : gx_B G X RX1 cX1_raised 2 rmX1_raised 76 := B
  show gx_WG G X 2 (zh J) 0 [(0, .int (zI a)), (1, .int (zI b))] []
  refine gx_iload_n B dX1_raised_0 rfl rfl ?_
  refine gx_iload_n B dX1_raised_1 rfl rfl ?_
  refine z_ishl B dX1_raised_2 ?_
  refine gx_iload_n B dX1_raised_3 rfl rfl ?_
  refine z_bipush B dX1_raised_4 (by decide) ?_
  refine gx_iload_n B dX1_raised_6 rfl rfl ?_
  refine z_isub B dX1_raised_7 ?_
  refine z_ishr B dX1_raised_8 ?_
  refine z_ior B dX1_raised_9 ?_
  refine z_sipush B dX1_raised_10 (by decide) ?_
  refine z_iand B dX1_raised_13 ?_
  refine z_ireti B Rt dX1_raised_14 ?_
  exact ⟨rfl, rfl⟩

theorem mX3_hasLowButton {l : Launch} {G : gx_G} (hG : gx_OK G 76) (J : zJ) {g : Nat} (hg : isGoods g) (h6 : zB (J g 6)) (h7 : zB (J g 7)) : zMi l G yX3_hasLowButton cX3_hasLowButton 1 .boolean rmX3_hasLowButton [.ref (gx_ad G g)] J (fun r J' => r = bz (¬ J g 6 = -1 ∨ ¬ J g 7 = -1) ∧ J' = J) := by
  refine gx_mi hG (by decide) (Nat.le_of_ble_eq_true rfl) (fun X hla B Rt => ?_)
  subst hla
  have B : gx_B G X RX3 cX3_hasLowButton 1 rmX3_hasLowButton 76 := B
  show gx_WG G X 1 (zh J) 0 [(0, .ref (gx_ad G g))] []
  refine gx_aload_n B dX3_hasLowButton_0 rfl rfl ?_
  refine z_geti B fl_X3_31 (kGoods hg) (bGoods hg) (zGoods6 hg) dX3_hasLowButton_1 ?_
  refine z_iconst B dX3_hasLowButton_4 ?_
  refine z_icmp_ne (tgt := 16) B dX3_hasLowButton_5 ⟨by omega, by omega⟩ ⟨by omega, by omega⟩ (by decide) (fun c5_1 => ?_) (fun c5_1 => ?_)
  · refine z_iconst B dX3_hasLowButton_16 ?_
    refine gx_goto (tgt := 21) B dX3_hasLowButton_17 (by decide) ?_
    refine z_iretz B Rt dX3_hasLowButton_21 (by decide) ?_
    exact ⟨by unfold bz; split <;> omega, rfl⟩
  · refine gx_aload_n B dX3_hasLowButton_8 rfl rfl ?_
    refine z_geti B fl_X3_34 (kGoods hg) (bGoods hg) (zGoods7 hg) dX3_hasLowButton_9 ?_
    refine z_iconst B dX3_hasLowButton_12 ?_
    refine z_icmp_eq (tgt := 20) B dX3_hasLowButton_13 ⟨by omega, by omega⟩ ⟨by omega, by omega⟩ (by decide) (fun c13_2 => ?_) (fun c13_2 => ?_)
    · refine z_iconst B dX3_hasLowButton_20 ?_
      refine z_iretz B Rt dX3_hasLowButton_21 (by decide) ?_
      exact ⟨by unfold bz; split <;> omega, rfl⟩
    · refine z_iconst B dX3_hasLowButton_16 ?_
      refine gx_goto (tgt := 21) B dX3_hasLowButton_17 (by decide) ?_
      refine z_iretz B Rt dX3_hasLowButton_21 (by decide) ?_
      exact ⟨by unfold bz; split <;> omega, rfl⟩
end
section

def GS (J : zJ) (g : Nat) (xs : List Int) : Prop := J g 1 = (xs.length : Int) ∧ ∀ k, k < xs.length → J (g + 1) k = xs.getD k 0
def shf (J : zJ) (g i m : Nat) : zJ := fun a k => if a = g + 1 ∧ i < k ∧ k ≤ m then J (g + 1) (k - 1) else J a k
theorem shf_start (J : zJ) (g m : Nat) : shf J g m m = J := by
  funext a k
  unfold shf
  rw [if_neg (by omega)]
theorem shf_step {J : zJ} {g i m : Nat} (h0 : 0 < i) (hm : i ≤ m) : zup (shf J g i m) (g + 1) i (shf J g i m (g + 1) (i - 1)) = shf J g (i - 1) m := by
  funext a k
  unfold zup
  by_cases e : a = g + 1 ∧ k = i
  · rw [if_pos e]
    unfold shf
    rw [if_neg (by omega), if_pos (by omega), e.2]
  · rw [if_neg e]
    unfold shf
    by_cases e2 : a = g + 1 ∧ i < k ∧ k ≤ m
    · rw [if_pos e2, if_pos (by omega)]
    · rw [if_neg e2, if_neg (by omega)]
theorem gins_full {c : Int} {xs : List Int} (h : xs.length = 20) (h1 : ∀ j, j < 20 → xs.getD j 0 ≤ c) : gins c xs = xs := by
  unfold gins
  rw [oi_at xs 20 (by omega) h1 (fun j a b => by omega)]
  rw [List.take_append_of_le_length (by simp; omega), List.take_take]
  simp [List.take_of_length_le (show xs.length ≤ 20 by omega)]

theorem lpInsA {G : gx_G} {X : gx_X} (hG : gx_OK G 76) (B : gx_B G X RX3 cX3_insert 4 rmX3_insert 76) {g n : Nat} (hg : isGoods g) {J : zJ} {c : Int} (hc : zB c) (hn : n ≤ 20) (hB : ∀ k, k < n → zB (J (g + 1) k)) (kk : ∀ p : Nat, p ≤ n → (∀ j, p ≤ j → j < n → c < J (g + 1) j) → (p = 0 ∨ J (g + 1) (p - 1) ≤ c) → gx_WG G X 4 (zh J) 34 [(0, .ref (gx_ad G g)), (1, .int (zI c)), (2, .int (zI (p : Int))), (3, .int (zI ((p : Int) - 1)))] []) : ∀ p : Nat, p ≤ n → (∀ j, p ≤ j → j < n → c < J (g + 1) j) → gx_WG G X 4 (zh J) 12 [(0, .ref (gx_ad G g)), (1, .int (zI c)), (2, .int (zI (p : Int))), (3, .int (zI ((p : Int) - 1)))] [] := by
  refine dn_ind (fun p ih => ?_)
  intro hp hall
  refine gx_iload_n B dX3_insert_12 rfl rfl ?_
  refine z_if_lt (tgt := 34) B dX3_insert_13 ⟨by omega, by omega⟩ (by decide) (fun c13 => ?_) (fun c13 => ?_)
  · exact kk p hp hall (by first | exact Or.inr c23 | exact Or.inl (by omega))
  · refine gx_aload_n B dX3_insert_16 rfl rfl ?_
    refine gx_getr (t := (g + 1)) B fl_X3_9 (kGoods hg) (bGoods hg) (rGoods0 hg) dX3_insert_17 ?_
    refine gx_iload_n B dX3_insert_20 rfl rfl ?_
    refine z_iald (p - 1) B (aGoods hg) (cGoods hg) (by omega) (show p - 1 < 20 by omega) (by decide) dX3_insert_21 ?_
    refine gx_iload_n B dX3_insert_22 rfl rfl ?_
    refine z_icmp_le (tgt := 34) B dX3_insert_23 (hB (p - 1) (by omega)) hc (by decide) (fun c23 => ?_) (fun c23 => ?_)
    · exact kk p hp hall (by first | exact Or.inr c23 | exact Or.inl (by omega))
    · refine gx_iload_n B dX3_insert_26 rfl rfl ?_
      refine z_istore_n (fun v => [(0, .ref (gx_ad G g)), (1, .int (zI c)), (2, .int (zI v)), (3, .int (zI ((p : Int) - 1)))]) B dX3_insert_27 rfl (by decide) rfl (fun _ => rfl) (fun v2 hv2 => ?_)
      obtain rfl : v2 = ((p - 1 : Nat) : Int) := by omega
      refine z_iinc (fun v => [(0, .ref (gx_ad G g)), (1, .int (zI c)), (2, .int (zI ((p - 1 : Nat) : Int))), (3, .int (zI v))]) B dX3_insert_28 rfl (by decide) rfl (fun _ => rfl) (fun v3 hv3 => ?_)
      obtain rfl : v3 = ((p - 1 : Nat) : Int) - 1 := by omega
      refine gx_goto (tgt := 12) B dX3_insert_31 (by decide) ?_
      refine ih (p - 1) (by omega) (by omega) (fun j h1 h2 => ?_)
      by_cases e : j = p - 1
      · rw [e]; exact c23
      · exact hall j (by omega) h2

theorem lpInsB {G : gx_G} {X : gx_X} (hG : gx_OK G 76) (B : gx_B G X RX3 cX3_insert 4 rmX3_insert 76) {g p m : Nat} (hg : isGoods g) {J : zJ} {c : Int} (hm : m ≤ 19) (kk : gx_WG G X 4 (zh (shf J g p m)) 76 [(0, .ref (gx_ad G g)), (1, .int (zI c)), (2, .int (zI (p : Int))), (3, .int (zI (p : Int)))] []) : ∀ i : Nat, p ≤ i → i ≤ m → gx_WG G X 4 (zh (shf J g i m)) 51 [(0, .ref (gx_ad G g)), (1, .int (zI c)), (2, .int (zI (p : Int))), (3, .int (zI (i : Int)))] [] := by
  refine dn_ind (fun i ih => ?_)
  intro hpi him
  refine gx_iload_n B dX3_insert_51 rfl rfl ?_
  refine gx_iload_n B dX3_insert_52 rfl rfl ?_
  refine z_icmp_le (tgt := 76) B dX3_insert_53 ⟨by omega, by omega⟩ ⟨by omega, by omega⟩ (by decide) (fun c53 => ?_) (fun c53 => ?_)
  · obtain rfl : i = p := by omega
    exact kk
  · refine gx_aload_n B dX3_insert_56 rfl rfl ?_
    refine gx_getr (t := (g + 1)) B fl_X3_9 (kGoods hg) (bGoods hg) (rGoods0 hg) dX3_insert_57 ?_
    refine gx_iload_n B dX3_insert_60 rfl rfl ?_
    refine gx_aload_n B dX3_insert_61 rfl rfl ?_
    refine gx_getr (t := (g + 1)) B fl_X3_9 (kGoods hg) (bGoods hg) (rGoods0 hg) dX3_insert_62 ?_
    refine gx_iload_n B dX3_insert_65 rfl rfl ?_
    refine z_iconst B dX3_insert_66 ?_
    refine z_isub B dX3_insert_67 ?_
    refine z_iald (i - 1) B (aGoods hg) (cGoods hg) (by omega) (show i - 1 < 20 by omega) (by decide) dX3_insert_68 ?_
    refine z_iast i B (aGoods hg) (cGoods hg) rfl (show i < 20 by omega) (by decide) dX3_insert_69 (fun J1 hJ1 => ?_)
    refine z_iinc (fun v => [(0, .ref (gx_ad G g)), (1, .int (zI c)), (2, .int (zI (p : Int))), (3, .int (zI v))]) B dX3_insert_70 rfl (by decide) rfl (fun _ => rfl) (fun v3 hv3 => ?_)
    obtain rfl : v3 = ((i - 1 : Nat) : Int) := by omega
    refine gx_goto (tgt := 51) B dX3_insert_73 (by decide) ?_
    rw [shf_step (by omega) him] at hJ1
    subst hJ1
    exact ih (i - 1) (by omega) (by omega) (by omega)

theorem mX3_insert {l : Launch} {G : gx_G} (hG : gx_OK G 76) {g : Nat} (hg : isGoods g) (J : zJ) {c : Int} (hc : zB c) (xs : List Int) (hs : GS J g xs) (hn0 : xs.length ≤ 20) (ho : srtd xs) (hB0 : ∀ k, k < xs.length → zB (xs.getD k 0)) : zMv l G yX3_insert cX3_insert 4 rmX3_insert [.ref (gx_ad G g), .int (zI c)] J (fun J' => GS J' g (gins c xs) ∧ ∀ a k, a ≠ g + 1 → ¬ (a = g ∧ k = 1) → J' a k = J a k) := by
  refine gx_mv hG (by decide) (Nat.le_of_ble_eq_true rfl) (fun X hla B Rt => ?_)
  subst hla
  have B : gx_B G X RX3 cX3_insert 4 rmX3_insert 76 := B
  show gx_WG G X 4 (zh J) 0 [(0, .ref (gx_ad G g)), (1, .int (zI c))] []
  obtain ⟨n, hn1⟩ : ∃ n, n = xs.length := ⟨_, rfl⟩
  have hn : n ≤ 20 := by omega
  have hJn : J g 1 = (n : Int) := by rw [hs.1, hn1]
  have hB : ∀ k, k < n → zB (J (g + 1) k) := fun k hk => by rw [hs.2 k (by omega)]; exact hB0 k (by omega)
  refine gx_aload_n B dX3_insert_0 rfl rfl ?_
  refine z_geti B fl_X3_15 (kGoods hg) (bGoods hg) (zGoods1 hg) dX3_insert_1 ?_
  refine z_istore_n (fun v => [(0, .ref (gx_ad G g)), (1, .int (zI c)), (2, .int (zI v))]) B dX3_insert_4 rfl (by decide) rfl (fun _ => rfl) (fun v2 hv2 => ?_)
  obtain rfl : v2 = (n : Int) := by omega
  refine gx_aload_n B dX3_insert_5 rfl rfl ?_
  refine z_geti B fl_X3_15 (kGoods hg) (bGoods hg) (zGoods1 hg) dX3_insert_6 ?_
  refine z_iconst B dX3_insert_9 ?_
  refine z_isub B dX3_insert_10 ?_
  refine z_istore_n (fun v => [(0, .ref (gx_ad G g)), (1, .int (zI c)), (2, .int (zI (n : Int))), (3, .int (zI v))]) B dX3_insert_11 rfl (by decide) rfl (fun _ => rfl) (fun v3 hv3 => ?_)
  obtain rfl : v3 = (n : Int) - 1 := by omega
  refine lpInsA hG B hg hc hn hB (fun p hp hall hle => ?_) n (Nat.le_refl _) (fun j h1 h2 => by omega)
  refine gx_iload_n B dX3_insert_34 rfl rfl ?_
  refine z_bipush B dX3_insert_35 (by decide) ?_
  refine z_icmp_lt (tgt := 41) B dX3_insert_37 ⟨by omega, by omega⟩ ⟨by omega, by omega⟩ (by decide) (fun c37 => ?_) (fun c37 => ?_)
  · refine gx_aload_n B dX3_insert_41 rfl rfl ?_
    refine z_geti B fl_X3_15 (kGoods hg) (bGoods hg) (zGoods1 hg) dX3_insert_42 ?_
    refine z_bipush B dX3_insert_45 (by decide) ?_
    refine z_mmin B lm_X3_89 (by decide) (Nat.le_of_ble_eq_true rfl) ⟨by omega, by omega⟩ ⟨by omega, by omega⟩ dX3_insert_47 ?_
    refine z_istore_n (fun v => [(0, .ref (gx_ad G g)), (1, .int (zI c)), (2, .int (zI (p : Int))), (3, .int (zI v))]) B dX3_insert_50 rfl (by decide) rfl (fun _ => rfl) (fun v3 hv3 => ?_)
    obtain rfl : v3 = ((min n 19 : Nat) : Int) := by omega
    rw [← shf_start J g (min n 19)]
    refine lpInsB hG B hg (by omega) ?_ (min n 19) (by omega) (Nat.le_refl _)
    refine gx_aload_n B dX3_insert_76 rfl rfl ?_
    refine gx_getr (t := (g + 1)) B fl_X3_9 (kGoods hg) (bGoods hg) (rGoods0 hg) dX3_insert_77 ?_
    refine gx_iload_n B dX3_insert_80 rfl rfl ?_
    refine gx_iload_n B dX3_insert_81 rfl rfl ?_
    refine z_iast p B (aGoods hg) (cGoods hg) rfl (show p < 20 by omega) (by decide) dX3_insert_82 (fun J1 hJ1 => ?_)
    refine gx_aload_n B dX3_insert_83 rfl rfl ?_
    refine gx_aload_n B dX3_insert_84 rfl rfl ?_
    refine z_geti B fl_X3_15 (kGoods hg) (bGoods hg) (zGoods1 hg) dX3_insert_85 ?_
    refine z_iconst B dX3_insert_88 ?_
    refine z_iadd B dX3_insert_89 ?_
    refine z_bipush B dX3_insert_90 (by decide) ?_
    have hJg : J1 g 1 = (n : Int) := by
      rw [hJ1, zup_ne (by omega)]
      unfold shf
      rw [if_neg (by omega)]
      exact hJn
    refine z_mmin B lm_X3_89 (by decide) (Nat.le_of_ble_eq_true rfl) ⟨by rw [hJg]; omega, by rw [hJg]; omega⟩ ⟨by omega, by omega⟩ dX3_insert_92 ?_
    refine z_puti B fw_X3_15 (kGoods hg) (bGoods hg) (zGoods1 hg) dX3_insert_95 (fun J2 hJ2 => ?_)
    refine z_ret B Rt dX3_insert_98 ?_
    subst hJ2
    subst hJ1
    have hle2 : ∀ j, j < p → xs.getD j 0 ≤ c := fun j hj => by
      have h1 : J (g + 1) (p - 1) ≤ c := by
        rcases hle with h | h
        · omega
        · exact h
      rw [hs.2 (p - 1) (by omega)] at h1
      exact Int.le_trans (srtd_le ho (show j ≤ p - 1 by omega) (by omega)) h1
    have hgt : ∀ j, p ≤ j → j < xs.length → c < xs.getD j 0 := fun j h1 h2 => by
      rw [← hs.2 j h2]
      exact hall j h1 (by omega)
    refine ⟨⟨?_, fun k hk => ?_⟩, fun a k h1 h2 => ?_⟩
    · rw [zup_self, hJg, gins_len]
      omega
    · rw [gins_get (by omega) hle2 hgt k hk]
      rw [gins_len] at hk
      rw [zup_ne (by omega)]
      by_cases e : k < p
      · rw [if_pos e, zup_ne (by omega)]
        unfold shf
        rw [if_neg (by omega)]
        exact hs.2 k (by omega)
      · rw [if_neg e]
        by_cases e2 : k = p
        · rw [if_pos e2, e2, zup_self]
        · rw [if_neg e2, zup_ne (by omega)]
          unfold shf
          rw [if_pos (by omega)]
          exact hs.2 (k - 1) (by omega)
    · rw [zup_ne h2, zup_ne (by omega)]
      unfold shf
      rw [if_neg (by omega)]
  · refine z_ret B Rt dX3_insert_40 ?_
    have hp20 : p = 20 := by omega
    have hle2 : ∀ j, j < p → xs.getD j 0 ≤ c := fun j hj => by
      have h1 : J (g + 1) (p - 1) ≤ c := by
        rcases hle with h | h
        · omega
        · exact h
      rw [hs.2 (p - 1) (by omega)] at h1
      exact Int.le_trans (srtd_le ho (show j ≤ p - 1 by omega) (by omega)) h1
    rw [gins_full (by omega) (fun j hj => hle2 j (by omega))]
    exact ⟨hs, fun _ _ _ _ => rfl⟩
end
section

theorem gx_ldcw {G : gx_G} {X : gx_X} {own : String} {cc : ByteArray} {nL lo : Nat} {rm : Room} {J : zJ} {pc : Nat} {lv : List (Nat × Value)} {st : List Value} {n : Nat} {v : Int32} (z : Int) (B : gx_B G X own cc nL rm lo) (hd : decode cc pc = .ok (.ldc_w n, 3)) (hv : Cond.constant own n v ∈ gtbl) (hz : v = zI z) (kk : gx_WG G X nL (zh J) (pc + 3) lv (.int (zI z) :: st)) : gx_WG G X nL (zh J) pc lv st := by
  obtain ⟨p, l, e, R, s, m, args, below, meth, c, Q, A, kk0, nn0⟩ := X
  obtain ⟨⟨hx, hb, hml, hown, hts⟩, hK, hR, hG, hA, hk0, hn0⟩ := B
  subst hz
  intro H locs ls hP hS hl
  exact lv_ldcw hx hb hown (hts _ hv) hd (kk H locs ls hP hS hl)
theorem bz_n0 {p : Prop} [Decidable p] : ¬ bz p = 0 ↔ p := by unfold bz; split <;> simp_all

theorem mJ6_bitCount {l : Launch} {G : gx_G} (hG : gx_OK G 76) (J : zJ) {x : Int} : zMi l G yJ6_bitCount_0f7a4 cJ6_bitCount_0f7a4 1 .int rmJ6_bitCount [.int (zI x)] J (fun r J' => r = bcZ x ∧ J' = J) := by
  refine gx_mi hG (by decide) (Nat.le_of_ble_eq_true rfl) (fun X hla B Rt => ?_)
  subst hla
  have B : gx_B G X RJ6 cJ6_bitCount_0f7a4 1 rmJ6_bitCount 76 := B
  show gx_WG G X 1 (zh J) 0 [(0, .int (zI x))] []
  refine gx_iload_n B dJ6_bitCount_0f7a4_0 rfl rfl ?_
  refine gx_iload_n B dJ6_bitCount_0f7a4_1 rfl rfl ?_
  refine z_iconst B dJ6_bitCount_0f7a4_2 ?_
  refine z_iushr B dJ6_bitCount_0f7a4_3 ?_
  refine gx_ldcw 1431655765 B dJ6_bitCount_0f7a4_4 lk_J6_265 (by decide) ?_
  refine z_iand B dJ6_bitCount_0f7a4_7 ?_
  refine z_isub B dJ6_bitCount_0f7a4_8 ?_
  refine z_istore_n (fun v => [(0, .int (zI v))]) B dJ6_bitCount_0f7a4_9 rfl (by decide) rfl (fun _ => rfl) (fun b1 hb1 => ?_)
  refine gx_iload_n B dJ6_bitCount_0f7a4_10 rfl rfl ?_
  refine gx_ldcw 858993459 B dJ6_bitCount_0f7a4_11 lk_J6_266 (by decide) ?_
  refine z_iand B dJ6_bitCount_0f7a4_14 ?_
  refine gx_iload_n B dJ6_bitCount_0f7a4_15 rfl rfl ?_
  refine z_iconst B dJ6_bitCount_0f7a4_16 ?_
  refine z_iushr B dJ6_bitCount_0f7a4_17 ?_
  refine gx_ldcw 858993459 B dJ6_bitCount_0f7a4_18 lk_J6_266 (by decide) ?_
  refine z_iand B dJ6_bitCount_0f7a4_21 ?_
  refine z_iadd B dJ6_bitCount_0f7a4_22 ?_
  refine z_istore_n (fun v => [(0, .int (zI v))]) B dJ6_bitCount_0f7a4_23 rfl (by decide) rfl (fun _ => rfl) (fun b2 hb2 => ?_)
  refine gx_iload_n B dJ6_bitCount_0f7a4_24 rfl rfl ?_
  refine gx_iload_n B dJ6_bitCount_0f7a4_25 rfl rfl ?_
  refine z_iconst B dJ6_bitCount_0f7a4_26 ?_
  refine z_iushr B dJ6_bitCount_0f7a4_27 ?_
  refine z_iadd B dJ6_bitCount_0f7a4_28 ?_
  refine gx_ldcw 252645135 B dJ6_bitCount_0f7a4_29 lk_J6_267 (by decide) ?_
  refine z_iand B dJ6_bitCount_0f7a4_32 ?_
  refine z_istore_n (fun v => [(0, .int (zI v))]) B dJ6_bitCount_0f7a4_33 rfl (by decide) rfl (fun _ => rfl) (fun b3 hb3 => ?_)
  refine gx_iload_n B dJ6_bitCount_0f7a4_34 rfl rfl ?_
  refine gx_iload_n B dJ6_bitCount_0f7a4_35 rfl rfl ?_
  refine z_bipush B dJ6_bitCount_0f7a4_36 (by decide) ?_
  refine z_iushr B dJ6_bitCount_0f7a4_38 ?_
  refine z_iadd B dJ6_bitCount_0f7a4_39 ?_
  refine z_istore_n (fun v => [(0, .int (zI v))]) B dJ6_bitCount_0f7a4_40 rfl (by decide) rfl (fun _ => rfl) (fun b4 hb4 => ?_)
  refine gx_iload_n B dJ6_bitCount_0f7a4_41 rfl rfl ?_
  refine gx_iload_n B dJ6_bitCount_0f7a4_42 rfl rfl ?_
  refine z_bipush B dJ6_bitCount_0f7a4_43 (by decide) ?_
  refine z_iushr B dJ6_bitCount_0f7a4_45 ?_
  refine z_iadd B dJ6_bitCount_0f7a4_46 ?_
  refine z_istore_n (fun v => [(0, .int (zI v))]) B dJ6_bitCount_0f7a4_47 rfl (by decide) rfl (fun _ => rfl) (fun b5 hb5 => ?_)
  refine gx_iload_n B dJ6_bitCount_0f7a4_48 rfl rfl ?_
  refine z_bipush B dJ6_bitCount_0f7a4_49 (by decide) ?_
  refine z_iand B dJ6_bitCount_0f7a4_51 ?_
  refine z_ireti B Rt dJ6_bitCount_0f7a4_52 ?_
  subst hb5 hb4 hb3 hb2 hb1
  exact ⟨rfl, rfl⟩

theorem mX3_packed {l : Launch} {G : gx_G} (hG : gx_OK G 76) (J : zJ) {x y z : Int} (hx : bt1 x) (hy : bt1 y) (hz : bt1 z) : zMi l G yX3_packed cX3_packed 7 .int rmX3_packed [.int (zI x), .int (zI y), .int (zI z)] J (fun r J' => r = pkA x y z ∧ J' = J) := by
  refine gx_mi hG (by decide) (Nat.le_of_ble_eq_true rfl) (fun X hla B Rt => ?_)
  subst hla
  have B : gx_B G X RX3 cX3_packed 7 rmX3_packed 76 := B
  show gx_WG G X 7 (zh J) 0 [(0, .int (zI x)), (1, .int (zI y)), (2, .int (zI z))] []
  refine gx_iload_n B dX3_packed_0 rfl rfl ?_
  refine gx_iload_n B dX3_packed_1 rfl rfl ?_
  refine gx_iload_n B dX3_packed_2 rfl rfl ?_
  refine z_mmin B lm_X3_89 (by decide) (Nat.le_of_ble_eq_true rfl) ⟨by omega, by omega⟩ ⟨by omega, by omega⟩ dX3_packed_3 ?_
  refine z_mmin B lm_X3_89 (by decide) (Nat.le_of_ble_eq_true rfl) ⟨by omega, by omega⟩ ⟨by omega, by omega⟩ dX3_packed_6 ?_
  refine z_istore_n (fun v => [(0, .int (zI x)), (1, .int (zI y)), (2, .int (zI z)), (3, .int (zI v))]) B dX3_packed_9 rfl (by decide) rfl (fun _ => rfl) (fun v hv => ?_)
  subst hv
  refine gx_iload_n B dX3_packed_10 rfl rfl ?_
  refine gx_iload_n B dX3_packed_11 rfl rfl ?_
  refine gx_iload_n B dX3_packed_12 rfl rfl ?_
  refine z_mmax B lm_X3_94 (by decide) (Nat.le_of_ble_eq_true rfl) ⟨by omega, by omega⟩ ⟨by omega, by omega⟩ dX3_packed_13 ?_
  refine z_mmax B lm_X3_94 (by decide) (Nat.le_of_ble_eq_true rfl) ⟨by omega, by omega⟩ ⟨by omega, by omega⟩ dX3_packed_16 ?_
  refine z_istore (fun v => [(0, .int (zI x)), (1, .int (zI y)), (2, .int (zI z)), (3, .int (zI (min x (min y z)))), (4, .int (zI v))]) B dX3_packed_19 (by decide) rfl (fun _ => rfl) (fun v hv => ?_)
  subst hv
  refine gx_iload_n B dX3_packed_21 rfl rfl ?_
  refine gx_iload_n B dX3_packed_22 rfl rfl ?_
  refine z_iadd B dX3_packed_23 ?_
  refine gx_iload_n B dX3_packed_24 rfl rfl ?_
  refine z_iadd B dX3_packed_25 ?_
  refine gx_iload_n B dX3_packed_26 rfl rfl ?_
  refine z_isub B dX3_packed_27 ?_
  refine gx_iload B dX3_packed_28 rfl ?_
  refine z_isub B dX3_packed_30 ?_
  refine z_istore (fun v => [(0, .int (zI x)), (1, .int (zI y)), (2, .int (zI z)), (3, .int (zI (min x (min y z)))), (4, .int (zI (max x (max y z)))), (5, .int (zI v))]) B dX3_packed_31 (by decide) rfl (fun _ => rfl) (fun v hv => ?_)
  subst hv
  refine gx_iload_n B dX3_packed_33 rfl rfl ?_
  refine z_iconst B dX3_packed_34 ?_
  refine z_mmax B lm_X3_94 (by decide) (Nat.le_of_ble_eq_true rfl) ⟨by omega, by omega⟩ ⟨by omega, by omega⟩ dX3_packed_35 ?_
  refine z_bipush B dX3_packed_38 (by decide) ?_
  refine z_ishl B dX3_packed_40 ?_
  refine gx_iload B dX3_packed_41 rfl ?_
  refine z_iconst B dX3_packed_43 ?_
  refine z_mmax B lm_X3_94 (by decide) (Nat.le_of_ble_eq_true rfl) ⟨by omega, by omega⟩ ⟨by omega, by omega⟩ dX3_packed_44 ?_
  refine z_ior B dX3_packed_47 ?_
  refine z_istore (fun v => [(0, .int (zI x)), (1, .int (zI y)), (2, .int (zI z)), (3, .int (zI (min x (min y z)))), (4, .int (zI (max x (max y z)))), (5, .int (zI ((((x + y) + z) - (min x (min y z))) - (max x (max y z))))), (6, .int (zI v))]) B dX3_packed_48 (by decide) rfl (fun _ => rfl) (fun v hv => ?_)
  subst hv
  refine gx_iload B dX3_packed_50 rfl ?_
  refine z_bipush B dX3_packed_52 (by decide) ?_
  refine z_ishl B dX3_packed_54 ?_
  refine gx_iload B dX3_packed_55 rfl ?_
  refine z_iconst B dX3_packed_57 ?_
  refine z_mmax B lm_X3_94 (by decide) (Nat.le_of_ble_eq_true rfl) ⟨by omega, by omega⟩ ⟨by omega, by omega⟩ dX3_packed_58 ?_
  refine z_ior B dX3_packed_61 ?_
  refine z_ireti B Rt dX3_packed_62 ?_
  refine ⟨?_, rfl⟩
  unfold pkA
  rw [zcat7 (a := max (min x (min y z)) 0) (by omega) (by omega) (by omega) (by omega), zcat7 (by omega) (by omega) (by omega) (by omega)]

theorem mX3_takeWithLow {l : Launch} {G : gx_G} (hG : gx_OK G 76) {g : Nat} (hg : isGoods g) (J : zJ) {f z : Int} (hf : bt1 f) (hz : bt1 z) (h6 : bt1 (J g 6)) (h7 : bt1 (J g 7)) (xs : List Int) (hs : GS J g xs) (ok : okL xs) : zMv l G yX3_takeWithLow cX3_takeWithLow 3 rmX3_takeWithLow [.ref (gx_ad G g), .int (zI f), .int (zI z)] J (fun J' => GS J' g (addLows f z (lowsOf (J g 6) (J g 7)) xs) ∧ ∀ a k, a ≠ g + 1 → ¬ (a = g ∧ k = 1) → J' a k = J a k) := by
  refine gx_mv hG (by decide) (Nat.le_of_ble_eq_true rfl) (fun X hla B Rt => ?_)
  subst hla
  have B : gx_B G X RX3 cX3_takeWithLow 3 rmX3_takeWithLow 76 := B
  show gx_WG G X 3 (zh J) 0 [(0, .ref (gx_ad G g)), (1, .int (zI f)), (2, .int (zI z))] []
  have fr0 : ∀ a k, a ≠ g + 1 → ¬ (a = g ∧ k = 1) → J a k = J a k := fun _ _ _ _ => rfl
  refine gx_aload_n B dX3_takeWithLow_0 rfl rfl ?_
  refine z_callVi [] B lv_X3_60 (mX3_hasLowButton hG J hg ⟨by omega, by omega⟩ ⟨by omega, by omega⟩) (kGoods hg) (bGoods hg) rfl rfl (Nat.le_of_ble_eq_true rfl) (by decide) (by decide) dX3_takeWithLow_1 (fun r2 J1 hJ1 => ?_)
  rw [hJ1.1, hJ1.2]
  refine z_if_ne (tgt := 17) B dX3_takeWithLow_4 (bzB _) (by decide) (fun c4 => ?_) (fun c4 => ?_)
  · rw [bz_n0] at c4
    refine gx_aload_n B dX3_takeWithLow_17 rfl rfl ?_
    refine z_geti B fl_X3_31 (kGoods hg) (bGoods hg) (zGoods6 hg) dX3_takeWithLow_18 ?_
    refine z_iconst B dX3_takeWithLow_21 ?_
    refine z_icmp_eq (tgt := 38) B dX3_takeWithLow_22 ⟨by omega, by omega⟩ ⟨by omega, by omega⟩ (by decide) (fun c22 => ?_) (fun c22 => ?_)
    · have q6 := c22
      refine gx_aload_n B dX3_takeWithLow_38 rfl rfl ?_
      refine z_geti B fl_X3_34 (kGoods hg) (bGoods hg) (zGoods7 hg) dX3_takeWithLow_39 ?_
      refine z_iconst B dX3_takeWithLow_42 ?_
      refine z_icmp_eq (tgt := 59) B dX3_takeWithLow_43 ⟨by omega, by omega⟩ ⟨by omega, by omega⟩ (by decide) (fun c43 => ?_) (fun c43 => ?_)
      · have q7 := c43
        refine z_ret B Rt dX3_takeWithLow_59 ?_
        first
         | (exfalso; omega)
         | exact ⟨by simpa [lowsOf, addLows, q6, q7, q6] using hs, fr0⟩
      · have q7 := c43
        refine gx_aload_n B dX3_takeWithLow_46 rfl rfl ?_
        refine gx_aload_n B dX3_takeWithLow_47 rfl rfl ?_
        refine z_geti B fl_X3_34 (kGoods hg) (bGoods hg) (zGoods7 hg) dX3_takeWithLow_48 ?_
        refine gx_iload_n B dX3_takeWithLow_51 rfl rfl ?_
        refine gx_iload_n B dX3_takeWithLow_52 rfl rfl ?_
        refine z_callSi [.int (zI (J g 7)), .int (zI f), .int (zI z)] B ls_X3_81 (mX3_packed hG J (x := J g 7) (y := f) (z := z) ⟨by omega, by omega⟩ ⟨by omega, by omega⟩ ⟨by omega, by omega⟩) rfl rfl (Nat.le_of_ble_eq_true rfl) (by decide) (by decide) dX3_takeWithLow_53 (fun r4 J3 hJ3 => ?_)
        rw [hJ3.1, hJ3.2]
        have pk5 := pkA_le (x := J g 7) (y := f) (z := z) ⟨by omega, by omega⟩ ⟨by omega, by omega⟩ ⟨by omega, by omega⟩
        refine z_callVv [.int (zI (pkA (J g 7) f z))] B lv_X3_85 (mX3_insert hG hg J (c := pkA (J g 7) f z) (by have h9 := pk5; exact ⟨by omega, by omega⟩) xs hs ok.2.1 ok.1 (fun k hk => by have h9 := okL_at ok hk; exact ⟨by omega, by omega⟩)) (kGoods hg) (bGoods hg) rfl rfl (Nat.le_of_ble_eq_true rfl) (by decide) (by decide) dX3_takeWithLow_56 (fun J6 hJ6 => ?_)
        have gs_J6 : GS J6 g (gins (pkA (J g 7) f z) xs) := hJ6.1
        have ok_J6 : okL (gins (pkA (J g 7) f z) xs) := okL_gins ok pk5.1 pk5.2
        have fr_J6 : ∀ a k, a ≠ g + 1 → ¬ (a = g ∧ k = 1) → J6 a k = J a k := fun a k h1 h2 => (hJ6.2 a k h1 h2).trans (fr0 a k h1 h2)
        have e6_J6 : J6 g 6 = J g 6 := fr_J6 g 6 (by omega) (by omega)
        have e7_J6 : J6 g 7 = J g 7 := fr_J6 g 7 (by omega) (by omega)
        refine z_ret B Rt dX3_takeWithLow_59 ?_
        first
         | (exfalso; omega)
         | exact ⟨by simpa [lowsOf, addLows, q6, q7, e6_J6, e7_J6, q6] using gs_J6, fr_J6⟩
    · have q6 := c22
      refine gx_aload_n B dX3_takeWithLow_25 rfl rfl ?_
      refine gx_aload_n B dX3_takeWithLow_26 rfl rfl ?_
      refine z_geti B fl_X3_31 (kGoods hg) (bGoods hg) (zGoods6 hg) dX3_takeWithLow_27 ?_
      refine gx_iload_n B dX3_takeWithLow_30 rfl rfl ?_
      refine gx_iload_n B dX3_takeWithLow_31 rfl rfl ?_
      refine z_callSi [.int (zI (J g 6)), .int (zI f), .int (zI z)] B ls_X3_81 (mX3_packed hG J (x := J g 6) (y := f) (z := z) ⟨by omega, by omega⟩ ⟨by omega, by omega⟩ ⟨by omega, by omega⟩) rfl rfl (Nat.le_of_ble_eq_true rfl) (by decide) (by decide) dX3_takeWithLow_32 (fun r9 J8 hJ8 => ?_)
      rw [hJ8.1, hJ8.2]
      have pk10 := pkA_le (x := J g 6) (y := f) (z := z) ⟨by omega, by omega⟩ ⟨by omega, by omega⟩ ⟨by omega, by omega⟩
      refine z_callVv [.int (zI (pkA (J g 6) f z))] B lv_X3_85 (mX3_insert hG hg J (c := pkA (J g 6) f z) (by have h9 := pk10; exact ⟨by omega, by omega⟩) xs hs ok.2.1 ok.1 (fun k hk => by have h9 := okL_at ok hk; exact ⟨by omega, by omega⟩)) (kGoods hg) (bGoods hg) rfl rfl (Nat.le_of_ble_eq_true rfl) (by decide) (by decide) dX3_takeWithLow_35 (fun J11 hJ11 => ?_)
      have gs_J11 : GS J11 g (gins (pkA (J g 6) f z) xs) := hJ11.1
      have ok_J11 : okL (gins (pkA (J g 6) f z) xs) := okL_gins ok pk10.1 pk10.2
      have fr_J11 : ∀ a k, a ≠ g + 1 → ¬ (a = g ∧ k = 1) → J11 a k = J a k := fun a k h1 h2 => (hJ11.2 a k h1 h2).trans (fr0 a k h1 h2)
      have e6_J11 : J11 g 6 = J g 6 := fr_J11 g 6 (by omega) (by omega)
      have e7_J11 : J11 g 7 = J g 7 := fr_J11 g 7 (by omega) (by omega)
      refine gx_aload_n B dX3_takeWithLow_38 rfl rfl ?_
      refine z_geti B fl_X3_34 (kGoods hg) (bGoods hg) (zGoods7 hg) dX3_takeWithLow_39 ?_
      refine z_iconst B dX3_takeWithLow_42 ?_
      refine z_icmp_eq (tgt := 59) B dX3_takeWithLow_43 ⟨by omega, by omega⟩ ⟨by omega, by omega⟩ (by decide) (fun c43 => ?_) (fun c43 => ?_)
      · have q7 := c43; rw [e7_J11] at q7
        refine z_ret B Rt dX3_takeWithLow_59 ?_
        first
         | (exfalso; omega)
         | exact ⟨by simpa [lowsOf, addLows, q6, q7, e6_J11, e7_J11, q6] using gs_J11, fr_J11⟩
      · have q7 := c43; rw [e7_J11] at q7
        refine gx_aload_n B dX3_takeWithLow_46 rfl rfl ?_
        refine gx_aload_n B dX3_takeWithLow_47 rfl rfl ?_
        refine z_geti B fl_X3_34 (kGoods hg) (bGoods hg) (zGoods7 hg) dX3_takeWithLow_48 ?_
        refine gx_iload_n B dX3_takeWithLow_51 rfl rfl ?_
        refine gx_iload_n B dX3_takeWithLow_52 rfl rfl ?_
        refine z_callSi [.int (zI (J11 g 7)), .int (zI f), .int (zI z)] B ls_X3_81 (mX3_packed hG J11 (x := J11 g 7) (y := f) (z := z) ⟨by omega, by omega⟩ ⟨by omega, by omega⟩ ⟨by omega, by omega⟩) rfl rfl (Nat.le_of_ble_eq_true rfl) (by decide) (by decide) dX3_takeWithLow_53 (fun r14 J13 hJ13 => ?_)
        rw [hJ13.1, hJ13.2]
        have pk15 := pkA_le (x := J11 g 7) (y := f) (z := z) ⟨by omega, by omega⟩ ⟨by omega, by omega⟩ ⟨by omega, by omega⟩
        refine z_callVv [.int (zI (pkA (J11 g 7) f z))] B lv_X3_85 (mX3_insert hG hg J11 (c := pkA (J11 g 7) f z) (by have h9 := pk15; exact ⟨by omega, by omega⟩) (gins (pkA (J g 6) f z) xs) gs_J11 ok_J11.2.1 ok_J11.1 (fun k hk => by have h9 := okL_at ok_J11 hk; exact ⟨by omega, by omega⟩)) (kGoods hg) (bGoods hg) rfl rfl (Nat.le_of_ble_eq_true rfl) (by decide) (by decide) dX3_takeWithLow_56 (fun J16 hJ16 => ?_)
        have gs_J16 : GS J16 g (gins (pkA (J11 g 7) f z) (gins (pkA (J g 6) f z) xs)) := hJ16.1
        have ok_J16 : okL (gins (pkA (J11 g 7) f z) (gins (pkA (J g 6) f z) xs)) := okL_gins ok_J11 pk15.1 pk15.2
        have fr_J16 : ∀ a k, a ≠ g + 1 → ¬ (a = g ∧ k = 1) → J16 a k = J a k := fun a k h1 h2 => (hJ16.2 a k h1 h2).trans (fr_J11 a k h1 h2)
        have e6_J16 : J16 g 6 = J g 6 := fr_J16 g 6 (by omega) (by omega)
        have e7_J16 : J16 g 7 = J g 7 := fr_J16 g 7 (by omega) (by omega)
        refine z_ret B Rt dX3_takeWithLow_59 ?_
        first
         | (exfalso; omega)
         | exact ⟨by simpa [lowsOf, addLows, q6, q7, e6_J11, e7_J11, e6_J16, e7_J16, q6] using gs_J16, fr_J16⟩
  · rw [bz_0] at c4
    refine gx_aload_n B dX3_takeWithLow_7 rfl rfl ?_
    refine z_iconst B dX3_takeWithLow_8 ?_
    refine gx_iload_n B dX3_takeWithLow_9 rfl rfl ?_
    refine gx_iload_n B dX3_takeWithLow_10 rfl rfl ?_
    refine z_callSi [.int (zI (-1)), .int (zI f), .int (zI z)] B ls_X3_81 (mX3_packed hG J (x := -1) (y := f) (z := z) ⟨by omega, by omega⟩ ⟨by omega, by omega⟩ ⟨by omega, by omega⟩) rfl rfl (Nat.le_of_ble_eq_true rfl) (by decide) (by decide) dX3_takeWithLow_11 (fun r19 J18 hJ18 => ?_)
    rw [hJ18.1, hJ18.2]
    have pk20 := pkA_le (x := -1) (y := f) (z := z) ⟨by omega, by omega⟩ ⟨by omega, by omega⟩ ⟨by omega, by omega⟩
    refine z_callVv [.int (zI (pkA (-1) f z))] B lv_X3_85 (mX3_insert hG hg J (c := pkA (-1) f z) (by have h9 := pk20; exact ⟨by omega, by omega⟩) xs hs ok.2.1 ok.1 (fun k hk => by have h9 := okL_at ok hk; exact ⟨by omega, by omega⟩)) (kGoods hg) (bGoods hg) rfl rfl (Nat.le_of_ble_eq_true rfl) (by decide) (by decide) dX3_takeWithLow_14 (fun J21 hJ21 => ?_)
    have gs_J21 : GS J21 g (gins (pkA (-1) f z) xs) := hJ21.1
    have ok_J21 : okL (gins (pkA (-1) f z) xs) := okL_gins ok pk20.1 pk20.2
    have fr_J21 : ∀ a k, a ≠ g + 1 → ¬ (a = g ∧ k = 1) → J21 a k = J a k := fun a k h1 h2 => (hJ21.2 a k h1 h2).trans (fr0 a k h1 h2)
    have e6_J21 : J21 g 6 = J g 6 := fr_J21 g 6 (by omega) (by omega)
    have e7_J21 : J21 g 7 = J g 7 := fr_J21 g 7 (by omega) (by omega)
    refine gx_aload_n B dX3_takeWithLow_17 rfl rfl ?_
    refine z_geti B fl_X3_31 (kGoods hg) (bGoods hg) (zGoods6 hg) dX3_takeWithLow_18 ?_
    refine z_iconst B dX3_takeWithLow_21 ?_
    refine z_icmp_eq (tgt := 38) B dX3_takeWithLow_22 ⟨by omega, by omega⟩ ⟨by omega, by omega⟩ (by decide) (fun c22 => ?_) (fun c22 => ?_)
    · have q6 := c22; rw [e6_J21] at q6
      refine gx_aload_n B dX3_takeWithLow_38 rfl rfl ?_
      refine z_geti B fl_X3_34 (kGoods hg) (bGoods hg) (zGoods7 hg) dX3_takeWithLow_39 ?_
      refine z_iconst B dX3_takeWithLow_42 ?_
      refine z_icmp_eq (tgt := 59) B dX3_takeWithLow_43 ⟨by omega, by omega⟩ ⟨by omega, by omega⟩ (by decide) (fun c43 => ?_) (fun c43 => ?_)
      · have q7 := c43; rw [e7_J21] at q7
        refine z_ret B Rt dX3_takeWithLow_59 ?_
        first
         | (exfalso; omega)
         | exact ⟨by simpa [lowsOf, addLows, q6, q7, e6_J21, e7_J21, q6] using gs_J21, fr_J21⟩
      · have q7 := c43; rw [e7_J21] at q7
        refine gx_aload_n B dX3_takeWithLow_46 rfl rfl ?_
        refine gx_aload_n B dX3_takeWithLow_47 rfl rfl ?_
        refine z_geti B fl_X3_34 (kGoods hg) (bGoods hg) (zGoods7 hg) dX3_takeWithLow_48 ?_
        refine gx_iload_n B dX3_takeWithLow_51 rfl rfl ?_
        refine gx_iload_n B dX3_takeWithLow_52 rfl rfl ?_
        refine z_callSi [.int (zI (J21 g 7)), .int (zI f), .int (zI z)] B ls_X3_81 (mX3_packed hG J21 (x := J21 g 7) (y := f) (z := z) ⟨by omega, by omega⟩ ⟨by omega, by omega⟩ ⟨by omega, by omega⟩) rfl rfl (Nat.le_of_ble_eq_true rfl) (by decide) (by decide) dX3_takeWithLow_53 (fun r24 J23 hJ23 => ?_)
        rw [hJ23.1, hJ23.2]
        have pk25 := pkA_le (x := J21 g 7) (y := f) (z := z) ⟨by omega, by omega⟩ ⟨by omega, by omega⟩ ⟨by omega, by omega⟩
        refine z_callVv [.int (zI (pkA (J21 g 7) f z))] B lv_X3_85 (mX3_insert hG hg J21 (c := pkA (J21 g 7) f z) (by have h9 := pk25; exact ⟨by omega, by omega⟩) (gins (pkA (-1) f z) xs) gs_J21 ok_J21.2.1 ok_J21.1 (fun k hk => by have h9 := okL_at ok_J21 hk; exact ⟨by omega, by omega⟩)) (kGoods hg) (bGoods hg) rfl rfl (Nat.le_of_ble_eq_true rfl) (by decide) (by decide) dX3_takeWithLow_56 (fun J26 hJ26 => ?_)
        have gs_J26 : GS J26 g (gins (pkA (J21 g 7) f z) (gins (pkA (-1) f z) xs)) := hJ26.1
        have ok_J26 : okL (gins (pkA (J21 g 7) f z) (gins (pkA (-1) f z) xs)) := okL_gins ok_J21 pk25.1 pk25.2
        have fr_J26 : ∀ a k, a ≠ g + 1 → ¬ (a = g ∧ k = 1) → J26 a k = J a k := fun a k h1 h2 => (hJ26.2 a k h1 h2).trans (fr_J21 a k h1 h2)
        have e6_J26 : J26 g 6 = J g 6 := fr_J26 g 6 (by omega) (by omega)
        have e7_J26 : J26 g 7 = J g 7 := fr_J26 g 7 (by omega) (by omega)
        refine z_ret B Rt dX3_takeWithLow_59 ?_
        first
         | (exfalso; omega)
         | exact ⟨by simpa [lowsOf, addLows, q6, q7, e6_J21, e7_J21, e6_J26, e7_J26, q6] using gs_J26, fr_J26⟩
    · have q6 := c22; rw [e6_J21] at q6
      refine gx_aload_n B dX3_takeWithLow_25 rfl rfl ?_
      refine gx_aload_n B dX3_takeWithLow_26 rfl rfl ?_
      refine z_geti B fl_X3_31 (kGoods hg) (bGoods hg) (zGoods6 hg) dX3_takeWithLow_27 ?_
      refine gx_iload_n B dX3_takeWithLow_30 rfl rfl ?_
      refine gx_iload_n B dX3_takeWithLow_31 rfl rfl ?_
      refine z_callSi [.int (zI (J21 g 6)), .int (zI f), .int (zI z)] B ls_X3_81 (mX3_packed hG J21 (x := J21 g 6) (y := f) (z := z) ⟨by omega, by omega⟩ ⟨by omega, by omega⟩ ⟨by omega, by omega⟩) rfl rfl (Nat.le_of_ble_eq_true rfl) (by decide) (by decide) dX3_takeWithLow_32 (fun r29 J28 hJ28 => ?_)
      rw [hJ28.1, hJ28.2]
      have pk30 := pkA_le (x := J21 g 6) (y := f) (z := z) ⟨by omega, by omega⟩ ⟨by omega, by omega⟩ ⟨by omega, by omega⟩
      refine z_callVv [.int (zI (pkA (J21 g 6) f z))] B lv_X3_85 (mX3_insert hG hg J21 (c := pkA (J21 g 6) f z) (by have h9 := pk30; exact ⟨by omega, by omega⟩) (gins (pkA (-1) f z) xs) gs_J21 ok_J21.2.1 ok_J21.1 (fun k hk => by have h9 := okL_at ok_J21 hk; exact ⟨by omega, by omega⟩)) (kGoods hg) (bGoods hg) rfl rfl (Nat.le_of_ble_eq_true rfl) (by decide) (by decide) dX3_takeWithLow_35 (fun J31 hJ31 => ?_)
      have gs_J31 : GS J31 g (gins (pkA (J21 g 6) f z) (gins (pkA (-1) f z) xs)) := hJ31.1
      have ok_J31 : okL (gins (pkA (J21 g 6) f z) (gins (pkA (-1) f z) xs)) := okL_gins ok_J21 pk30.1 pk30.2
      have fr_J31 : ∀ a k, a ≠ g + 1 → ¬ (a = g ∧ k = 1) → J31 a k = J a k := fun a k h1 h2 => (hJ31.2 a k h1 h2).trans (fr_J21 a k h1 h2)
      have e6_J31 : J31 g 6 = J g 6 := fr_J31 g 6 (by omega) (by omega)
      have e7_J31 : J31 g 7 = J g 7 := fr_J31 g 7 (by omega) (by omega)
      refine gx_aload_n B dX3_takeWithLow_38 rfl rfl ?_
      refine z_geti B fl_X3_34 (kGoods hg) (bGoods hg) (zGoods7 hg) dX3_takeWithLow_39 ?_
      refine z_iconst B dX3_takeWithLow_42 ?_
      refine z_icmp_eq (tgt := 59) B dX3_takeWithLow_43 ⟨by omega, by omega⟩ ⟨by omega, by omega⟩ (by decide) (fun c43 => ?_) (fun c43 => ?_)
      · have q7 := c43; rw [e7_J31] at q7
        refine z_ret B Rt dX3_takeWithLow_59 ?_
        first
         | (exfalso; omega)
         | exact ⟨by simpa [lowsOf, addLows, q6, q7, e6_J21, e7_J21, e6_J31, e7_J31, q6] using gs_J31, fr_J31⟩
      · have q7 := c43; rw [e7_J31] at q7
        refine gx_aload_n B dX3_takeWithLow_46 rfl rfl ?_
        refine gx_aload_n B dX3_takeWithLow_47 rfl rfl ?_
        refine z_geti B fl_X3_34 (kGoods hg) (bGoods hg) (zGoods7 hg) dX3_takeWithLow_48 ?_
        refine gx_iload_n B dX3_takeWithLow_51 rfl rfl ?_
        refine gx_iload_n B dX3_takeWithLow_52 rfl rfl ?_
        refine z_callSi [.int (zI (J31 g 7)), .int (zI f), .int (zI z)] B ls_X3_81 (mX3_packed hG J31 (x := J31 g 7) (y := f) (z := z) ⟨by omega, by omega⟩ ⟨by omega, by omega⟩ ⟨by omega, by omega⟩) rfl rfl (Nat.le_of_ble_eq_true rfl) (by decide) (by decide) dX3_takeWithLow_53 (fun r34 J33 hJ33 => ?_)
        rw [hJ33.1, hJ33.2]
        have pk35 := pkA_le (x := J31 g 7) (y := f) (z := z) ⟨by omega, by omega⟩ ⟨by omega, by omega⟩ ⟨by omega, by omega⟩
        refine z_callVv [.int (zI (pkA (J31 g 7) f z))] B lv_X3_85 (mX3_insert hG hg J31 (c := pkA (J31 g 7) f z) (by have h9 := pk35; exact ⟨by omega, by omega⟩) (gins (pkA (J21 g 6) f z) (gins (pkA (-1) f z) xs)) gs_J31 ok_J31.2.1 ok_J31.1 (fun k hk => by have h9 := okL_at ok_J31 hk; exact ⟨by omega, by omega⟩)) (kGoods hg) (bGoods hg) rfl rfl (Nat.le_of_ble_eq_true rfl) (by decide) (by decide) dX3_takeWithLow_56 (fun J36 hJ36 => ?_)
        have gs_J36 : GS J36 g (gins (pkA (J31 g 7) f z) (gins (pkA (J21 g 6) f z) (gins (pkA (-1) f z) xs))) := hJ36.1
        have ok_J36 : okL (gins (pkA (J31 g 7) f z) (gins (pkA (J21 g 6) f z) (gins (pkA (-1) f z) xs))) := okL_gins ok_J31 pk35.1 pk35.2
        have fr_J36 : ∀ a k, a ≠ g + 1 → ¬ (a = g ∧ k = 1) → J36 a k = J a k := fun a k h1 h2 => (hJ36.2 a k h1 h2).trans (fr_J31 a k h1 h2)
        have e6_J36 : J36 g 6 = J g 6 := fr_J36 g 6 (by omega) (by omega)
        have e7_J36 : J36 g 7 = J g 7 := fr_J36 g 7 (by omega) (by omega)
        refine z_ret B Rt dX3_takeWithLow_59 ?_
        first
         | (exfalso; omega)
         | exact ⟨by simpa [lowsOf, addLows, q6, q7, e6_J21, e7_J21, e6_J31, e7_J31, e6_J36, e7_J36, q6] using gs_J36, fr_J36⟩
end
section

def GSB (J : zJ) (g : Nat) (s : GSt) : Prop := GS J g s.2 ∧ J g 8 = s.1
def okS (s : GSt) : Prop := okL s.2 ∧ 0 ≤ s.1 ∧ s.1 ≤ 2147483647
theorem okS_off {r f z : Int} {ls : List Int} {s : GSt} (h : okS s) (hr : 0 ≤ r ∧ r ≤ 3300) (hf : bt1 f) (hz : bt1 z) (hl : ∀ l ∈ ls, bt1 l) (hn : ls ≠ []) : okS (offS r f z ls s) := by
  rcases Int.lt_trichotomy r s.1 with h1 | h1 | h1
  · rw [offS_lt hn h1]
    exact ⟨okL_add hf hz ls hl okL_nil, by show 0 ≤ r; omega, by show r ≤ _; omega⟩
  · rw [offS_same h1]
    exact ⟨okL_add hf hz ls hl h.1, by show 0 ≤ r; omega, by show r ≤ _; omega⟩
  · rw [offS_gt h1]; exact h

theorem mX3_offer {l : Launch} {G : gx_G} (hG : gx_OK G 76) {g : Nat} (hg : isGoods g) (J : zJ) {f z b nt : Int} (hf : bt1 f) (hz : bt1 z) (hb0 : 0 ≤ b) (hb1 : b ≤ 2) (hn0 : 0 ≤ nt) (hn1 : nt ≤ 4095) (h50 : 0 ≤ J g 5) (h51 : J g 5 ≤ 4095) (h6 : bt1 (J g 6)) (h7 : bt1 (J g 7)) (s : GSt) (hs : GSB J g s) (ok : okS s) : zMv l G yX3_offer cX3_offer 8 rmX3_offer [.ref (gx_ad G g), .int (zI f), .int (zI z), .int (zI b), .int (zI nt)] J (fun J' => GSB J' g (offS (rnk (J g 5) nt b) f z (lowsOf (J g 6) (J g 7)) s) ∧ ∀ a k, a ≠ g + 1 → ¬ (a = g ∧ (k = 1 ∨ k = 8)) → J' a k = J a k) := by
  refine gx_mv hG (by decide) (Nat.le_of_ble_eq_true rfl) (fun X hla B Rt => ?_)
  subst hla
  have B : gx_B G X RX3 cX3_offer 8 rmX3_offer 76 := B
  show gx_WG G X 8 (zh J) 0 [(0, .ref (gx_ad G g)), (1, .int (zI f)), (2, .int (zI z)), (3, .int (zI b)), (4, .int (zI nt))] []
  obtain ⟨ok1, ok2, ok3⟩ := ok
  have hs8 := hs.2
  have hmi0 := ones_le (zless (J g 5) nt)
  have hsu0 := ones_le (zless nt (J g 5))
  have hrk0 := rnk_le (w := J g 5) (n := nt) hb0 hb1
  refine gx_aload_n B dX3_offer_0 rfl rfl ?_
  refine z_geti B fl_X3_28 (kGoods hg) (bGoods hg) (zGoods5 hg) dX3_offer_1 ?_
  refine gx_iload B dX3_offer_4 rfl ?_
  refine z_iconst B dX3_offer_6 ?_
  refine z_ixor B dX3_offer_7 ?_
  refine z_iand B dX3_offer_8 ?_
  refine z_callSi [.int (zI (zand (J g 5) (zxor nt (-1))))] B ls_X3_73 (mJ6_bitCount hG J (x := zand (J g 5) (zxor nt (-1)))) rfl rfl (Nat.le_of_ble_eq_true rfl) (by decide) (by decide) dX3_offer_9 (fun r2 J1 hJ1 => ?_)
  rw [hJ1.1, hJ1.2]
  rw [show bcZ (zand (J g 5) (zxor nt (-1))) = ones (zless (J g 5) nt) from bc_eq (zand_le h50 h51).1 (zand_le h50 h51).2]
  refine z_istore (fun v => [(0, .ref (gx_ad G g)), (1, .int (zI f)), (2, .int (zI z)), (3, .int (zI b)), (4, .int (zI nt)), (5, .int (zI v))]) B dX3_offer_12 (by decide) rfl (fun _ => rfl) (fun mi hmi => ?_)
  refine gx_iload B dX3_offer_14 rfl ?_
  refine gx_aload_n B dX3_offer_16 rfl rfl ?_
  refine z_geti B fl_X3_28 (kGoods hg) (bGoods hg) (zGoods5 hg) dX3_offer_17 ?_
  refine z_iconst B dX3_offer_20 ?_
  refine z_ixor B dX3_offer_21 ?_
  refine z_iand B dX3_offer_22 ?_
  refine z_callSi [.int (zI (zand nt (zxor (J g 5) (-1))))] B ls_X3_73 (mJ6_bitCount hG J (x := zand nt (zxor (J g 5) (-1)))) rfl rfl (Nat.le_of_ble_eq_true rfl) (by decide) (by decide) dX3_offer_23 (fun r4 J3 hJ3 => ?_)
  rw [hJ3.1, hJ3.2]
  rw [show bcZ (zand nt (zxor (J g 5) (-1))) = ones (zless nt (J g 5)) from bc_eq (zand_le hn0 hn1).1 (zand_le hn0 hn1).2]
  refine z_istore (fun v => [(0, .ref (gx_ad G g)), (1, .int (zI f)), (2, .int (zI z)), (3, .int (zI b)), (4, .int (zI nt)), (5, .int (zI mi)), (6, .int (zI v))]) B dX3_offer_26 (by decide) rfl (fun _ => rfl) (fun su hsu => ?_)
  refine gx_iload B dX3_offer_28 rfl ?_
  refine z_iconst B dX3_offer_30 ?_
  refine z_ishl B dX3_offer_31 ?_
  refine gx_iload B dX3_offer_32 rfl ?_
  refine z_ior B dX3_offer_34 ?_
  refine z_iconst B dX3_offer_35 ?_
  refine z_ishl B dX3_offer_36 ?_
  refine gx_iload_n B dX3_offer_37 rfl rfl ?_
  refine z_ior B dX3_offer_38 ?_
  refine z_istore (fun v => [(0, .ref (gx_ad G g)), (1, .int (zI f)), (2, .int (zI z)), (3, .int (zI b)), (4, .int (zI nt)), (5, .int (zI mi)), (6, .int (zI su)), (7, .int (zI v))]) B dX3_offer_39 (by decide) rfl (fun _ => rfl) (fun rk hrk => ?_)
  obtain rfl : rk = rnk (J g 5) nt b := by rw [hrk, zcat4 (a := mi) (by omega) (by omega) (by omega) (by omega), zcat4 (by omega) (by omega) (by omega) (by omega), hmi, hsu]; rfl
  refine gx_iload B dX3_offer_41 rfl ?_
  refine gx_aload_n B dX3_offer_43 rfl rfl ?_
  refine z_geti B fl_X3_37 (kGoods hg) (bGoods hg) (zGoods8 hg) dX3_offer_44 ?_
  refine z_icmp_ge (tgt := 61) B dX3_offer_47 ⟨by omega, by omega⟩ ⟨by have := hs.2; omega, by have := hs.2; omega⟩ (by decide) (fun c47 => ?_) (fun c47 => ?_)
  · have hb8 : zB (J g 8) := ⟨by have := hs.2; omega, by have := hs.2; omega⟩
    have q0 := 0
    have q1 := 0
    have q2 := 0
    have q3 := 0
    refine gx_iload B dX3_offer_61 rfl ?_
    refine gx_aload_n B dX3_offer_63 rfl rfl ?_
    refine z_geti B fl_X3_37 (kGoods hg) (bGoods hg) (zGoods8 hg) dX3_offer_64 ?_
    refine z_icmp_ne (tgt := 76) B dX3_offer_67 ⟨by omega, by omega⟩ hb8 (by decide) (fun c67 => ?_) (fun c67 => ?_)
    · refine z_ret B Rt dX3_offer_76 ?_
      rw [offS_gt (by have := hs.2; omega)]
      exact ⟨hs, fun _ _ _ _ => rfl⟩
    · refine gx_aload_n B dX3_offer_70 rfl rfl ?_
      refine gx_iload_n B dX3_offer_71 rfl rfl ?_
      refine gx_iload_n B dX3_offer_72 rfl rfl ?_
      refine z_callVv [.int (zI f), .int (zI z)] B lv_X3_77 (mX3_takeWithLow hG hg J hf hz (by rw [(rfl : J g 6 = J g 6)]; exact h6) (by rw [(rfl : J g 7 = J g 7)]; exact h7) s.2 hs.1 ok1) (kGoods hg) (bGoods hg) rfl rfl (Nat.le_of_ble_eq_true rfl) (by decide) (by decide) dX3_offer_73 (fun JT hJT => ?_)
      refine z_ret B Rt dX3_offer_76 ?_
      rw [offS_same (by rw [← hs.2]; exact c67)]
      refine ⟨⟨hJT.1, ?_⟩, fun a k h1 h2 => hJT.2 a k h1 (by omega)⟩
      rw [hJT.2 g 8 (by omega) (by omega)]; exact c67.symm
  · refine gx_aload_n B dX3_offer_50 rfl rfl ?_
    refine gx_iload B dX3_offer_51 rfl ?_
    refine z_puti B fw_X3_37 (kGoods hg) (bGoods hg) (zGoods8 hg) dX3_offer_53 (fun JR hJR => ?_)
    refine gx_aload_n B dX3_offer_56 rfl rfl ?_
    refine z_iconst B dX3_offer_57 ?_
    refine z_puti B fw_X3_15 (kGoods hg) (bGoods hg) (zGoods1 hg) dX3_offer_58 (fun JC hJC => ?_)
    have e80 : JC g 8 = rnk (J g 5) nt b := by rw [hJC, zup_ne (by omega), hJR, zup_self]
    have hb8 : zB (JC g 8) := by rw [e80]; exact ⟨by omega, by omega⟩
    have e60 : JC g 6 = J g 6 := by rw [hJC, zup_ne (by omega), hJR, zup_ne (by omega)]
    have e70 : JC g 7 = J g 7 := by rw [hJC, zup_ne (by omega), hJR, zup_ne (by omega)]
    have gs0 : GS JC g [] := ⟨by rw [hJC, zup_self]; rfl, fun k hk => by simp at hk⟩
    refine gx_iload B dX3_offer_61 rfl ?_
    refine gx_aload_n B dX3_offer_63 rfl rfl ?_
    refine z_geti B fl_X3_37 (kGoods hg) (bGoods hg) (zGoods8 hg) dX3_offer_64 ?_
    refine z_icmp_ne (tgt := 76) B dX3_offer_67 ⟨by omega, by omega⟩ hb8 (by decide) (fun c67 => ?_) (fun c67 => ?_)
    · refine z_ret B Rt dX3_offer_76 ?_
      exfalso
      rw [e80] at c67
      exact c67 rfl
    · refine gx_aload_n B dX3_offer_70 rfl rfl ?_
      refine gx_iload_n B dX3_offer_71 rfl rfl ?_
      refine gx_iload_n B dX3_offer_72 rfl rfl ?_
      refine z_callVv [.int (zI f), .int (zI z)] B lv_X3_77 (mX3_takeWithLow hG hg JC hf hz (by rw [e60]; exact h6) (by rw [e70]; exact h7) ([] : List Int) gs0 okL_nil) (kGoods hg) (bGoods hg) rfl rfl (Nat.le_of_ble_eq_true rfl) (by decide) (by decide) dX3_offer_73 (fun JT hJT => ?_)
      refine z_ret B Rt dX3_offer_76 ?_
      rw [offS_lt (lowsOf_ne _ _) (by rw [← hs.2]; exact c47)]
      rw [e60, e70] at hJT
      refine ⟨⟨hJT.1, ?_⟩, fun a k h1 h2 => ?_⟩
      · rw [hJT.2 g 8 (by omega) (by omega), e80]
      · rw [hJT.2 a k h1 (by omega), hJC, zup_ne (by omega), hJR, zup_ne (by omega)]
end
section

/-- the chord buttons that are there, below n -/
def cblN (rows : Int) (n : Nat) : List Nat := (List.range n).filter (fun (a : Nat) => decide (2 ≤ a % 6) && decide (thr rows a))
abbrev cbl (rows : Int) : List Nat := cblN rows 72
def ntc (base rows : Int) (a : Nat) : Int := if thr rows a then snd base a else 0
/-- a board that is tuned -/
def Tuned (J : zJ) (d : Nat) (base rows : Int) : Prop := (∀ a : Nat, a < 72 → J (d + 1) a = ntc base rows a) ∧ J d 2 = ((cbl rows).length : Int) ∧ ∀ i, i < (cbl rows).length → J (d + 2) i = ((cbl rows).getD i 0 : Int)
theorem cblN_mem {rows : Int} {n a : Nat} (h : a ∈ cblN rows n) : a < n ∧ 2 ≤ a % 6 ∧ thr rows a := by
  have := List.mem_filter.mp h
  simp only [Bool.and_eq_true, decide_eq_true_eq, List.mem_range] at this
  exact ⟨this.1, this.2.1, this.2.2⟩
theorem cbl_at {rows : Int} {i : Nat} (h : i < (cbl rows).length) : (cbl rows).getD i 0 ∈ cbl rows := by
  rw [List.getD_eq_getElem?_getD, List.getElem?_eq_getElem h]
  exact List.getElem_mem h
theorem cblN_len (rows : Int) (n : Nat) : (cblN rows n).length ≤ ((List.range n).filter (fun (a : Nat) => decide (2 ≤ a % 6))).length := by
  unfold cblN
  rw [show (fun (a : Nat) => decide (2 ≤ a % 6) && decide (thr rows a)) = (fun (a : Nat) => decide (thr rows a) && decide (2 ≤ a % 6)) from funext fun a => Bool.and_comm _ _, ← List.filter_filter]
  exact List.length_filter_le _ _
theorem cbl48 : ∀ n : Nat, n ≤ 72 → ((List.range n).filter (fun (a : Nat) => decide (2 ≤ a % 6))).length ≤ 48 := by decide +kernel
theorem cbl_len {rows : Int} {n : Nat} (h : n ≤ 72) : (cblN rows n).length ≤ 48 := Nat.le_trans (cblN_len rows n) (cbl48 n h)
theorem ntc_le {base rows : Int} {a : Nat} (h0 : 0 ≤ base) (h1 : base < 12) (ha : a < 72) : 0 ≤ ntc base rows a ∧ ntc base rows a ≤ 4095 := by
  have h := snd_eq h0 h1 ha
  unfold ntc
  split <;> omega
/-- the button of a bass row that sounds a low note, or -1: the first of its columns from c on -/
def lowF (base rows : Int) (row : Nat) (low : Int) : Nat → Nat → Int
  | 0, _ => -1
  | n + 1, c => if ntc base rows (6 * c + row) = zshl 1 low then ((6 * c + row : Nat) : Int) else lowF base rows row low n (c + 1)
def lowB (base rows : Int) (row : Nat) (low : Int) : Int := if low < 0 then -1 else lowF base rows row low 12 0
theorem lowF_bt {base rows low : Int} {row : Nat} (hr : row < 2) : ∀ n c, n + c ≤ 12 → bt1 (lowF base rows row low n c)
  | 0, _, _ => ⟨by show (-1 : Int) ≤ -1; omega, by show (-1 : Int) ≤ 71; omega⟩
  | n + 1, c, h => by
    unfold lowF
    split
    · exact ⟨by omega, by omega⟩
    · exact lowF_bt hr n (c + 1) (by omega)
theorem lowB_bt {base rows low : Int} {row : Nat} (hr : row < 2) : bt1 (lowB base rows row low) := by
  unfold lowB
  split
  · decide
  · exact lowF_bt hr 12 0 (by omega)

theorem lpLowB {G : gx_G} {X : gx_X} (hG : gx_OK G 76) (B : gx_B G X RX1 cX1_lowButton 4 rmX1_lowButton 76) {d row : Nat} (hd : isBoard d) (hrow : row < 2) {J : zJ} {base rows low : Int} (hb0 : 0 ≤ base) (hb1 : base < 12) (hl0 : 0 ≤ low) (hl1 : low ≤ 11) (hT : ∀ a : Nat, a < 72 → J (d + 1) a = ntc base rows a) (Rt : gx_Ri G X .int (zpi (fun r J' => r = lowF base rows row low 12 0 ∧ J' = J))) : ∀ i : Nat, i ≤ 12 → lowF base rows row low 12 0 = lowF base rows row low (12 - i) i → gx_WG G X 4 (zh J) 8 [(0, .ref (gx_ad G d)), (1, .int (zI (row : Int))), (2, .int (zI low)), (3, .int (zI ((6 * i + row : Nat) : Int)))] [] := by
  refine up_ind (fun i hi ih => ?_)
  intro hF
  refine gx_iload_n B dX1_lowButton_8 rfl rfl ?_
  refine z_bipush B dX1_lowButton_9 (by decide) ?_
  refine z_icmp_ge (tgt := 34) B dX1_lowButton_11 ⟨by omega, by omega⟩ ⟨by omega, by omega⟩ (by decide) (fun c11 => ?_) (fun c11 => ?_)
  · refine z_iconst B dX1_lowButton_34 ?_
    refine z_ireti B Rt dX1_lowButton_35 ?_
    refine ⟨?_, rfl⟩
    rw [hF, show 12 - i = 0 by omega]
    rfl
  · refine gx_aload_n B dX1_lowButton_14 rfl rfl ?_
    refine gx_getr (t := (d + 1)) B fl_X1_9 (kBoard hd) (bBoard hd) (rBoard0 hd) dX1_lowButton_15 ?_
    refine gx_iload_n B dX1_lowButton_18 rfl rfl ?_
    refine z_iald (6 * i + row) B (aBoard1 hd) (cBoard1 hd) rfl (show 6 * i + row < 72 by omega) (by decide) dX1_lowButton_19 ?_
    refine z_iconst B dX1_lowButton_20 ?_
    refine gx_iload_n B dX1_lowButton_21 rfl rfl ?_
    refine z_ishl B dX1_lowButton_22 ?_
    refine z_icmp_ne (tgt := 28) B dX1_lowButton_23 (by rw [hT _ (by omega)]; have := ntc_le (rows := rows) hb0 hb1 (show 6 * i + row < 72 by omega); exact ⟨by omega, by omega⟩) (zshlB _ _) (by decide) (fun c23 => ?_) (fun c23 => ?_)
    · rw [hT _ (by omega)] at c23
      refine z_iinc (fun v => [(0, .ref (gx_ad G d)), (1, .int (zI (row : Int))), (2, .int (zI low)), (3, .int (zI v))]) B dX1_lowButton_28 rfl (by decide) rfl (fun _ => rfl) (fun v3 hv3 => ?_)
      obtain rfl : v3 = ((6 * (i + 1) + row : Nat) : Int) := by omega
      refine gx_goto (tgt := 8) B dX1_lowButton_31 (by decide) ?_
      refine ih (by omega) ?_
      rw [hF, show 12 - i = (12 - (i + 1)) + 1 by omega]
      conv => lhs; unfold lowF
      rw [if_neg c23]
    · rw [hT _ (by omega)] at c23
      refine gx_iload_n B dX1_lowButton_26 rfl rfl ?_
      refine z_ireti B Rt dX1_lowButton_27 ?_
      refine ⟨?_, rfl⟩
      rw [hF, show 12 - i = (11 - i) + 1 by omega]
      unfold lowF
      rw [if_pos c23]

theorem mX1_lowButton {l : Launch} {G : gx_G} (hG : gx_OK G 76) {d row : Nat} (hd : isBoard d) (hrow : row < 2) (J : zJ) {base rows low : Int} (hb0 : 0 ≤ base) (hb1 : base < 12) (hl0 : -1 ≤ low) (hl1 : low ≤ 11) (hT : ∀ a : Nat, a < 72 → J (d + 1) a = ntc base rows a) : zMi l G yX1_lowButton cX1_lowButton 4 .int rmX1_lowButton [.ref (gx_ad G d), .int (zI (row : Int)), .int (zI low)] J (fun r J' => r = lowB base rows row low ∧ J' = J) := by
  refine gx_mi hG (by decide) (Nat.le_of_ble_eq_true rfl) (fun X hla B Rt => ?_)
  subst hla
  have B : gx_B G X RX1 cX1_lowButton 4 rmX1_lowButton 76 := B
  show gx_WG G X 4 (zh J) 0 [(0, .ref (gx_ad G d)), (1, .int (zI (row : Int))), (2, .int (zI low))] []
  refine gx_iload_n B dX1_lowButton_0 rfl rfl ?_
  refine z_if_ge (tgt := 6) B dX1_lowButton_1 ⟨by omega, by omega⟩ (by decide) (fun c1 => ?_) (fun c1 => ?_)
  · refine gx_iload_n B dX1_lowButton_6 rfl rfl ?_
    refine z_istore_n (fun v => [(0, .ref (gx_ad G d)), (1, .int (zI (row : Int))), (2, .int (zI low)), (3, .int (zI v))]) B dX1_lowButton_7 rfl (by decide) rfl (fun _ => rfl) (fun v3 hv3 => ?_)
    obtain rfl : v3 = ((6 * 0 + row : Nat) : Int) := by omega
    refine lpLowB hG B hd hrow hb0 hb1 (by omega) hl1 hT ?_ 0 (by omega) rfl
    unfold lowB at Rt
    rw [if_neg (by omega)] at Rt
    exact Rt
  · refine z_iconst B dX1_lowButton_4 ?_
    refine z_ireti B Rt dX1_lowButton_5 ?_
    refine ⟨?_, rfl⟩
    unfold lowB
    rw [if_pos (by omega)]


/-- what offers and their callers know: a board, the wanted chord, the low buttons *)-/
def Offer (J : zJ) (g d : Nat) (base rows : Int) : Prop := Tuned J d base rows ∧ 0 ≤ base ∧ base < 12 ∧ 0 ≤ J g 5 ∧ J g 5 ≤ 4095 ∧ bt1 (J g 6) ∧ bt1 (J g 7)
theorem gb_ne {g d : Nat} (hg : isGoods g) (hd : isBoard d) : d ≠ g ∧ d + 1 ≠ g ∧ d + 2 ≠ g ∧ d ≠ g + 1 ∧ d + 1 ≠ g + 1 ∧ d + 2 ≠ g + 1 := by
  obtain ⟨a, b, h1, h2, rfl⟩ := hg
  rcases h1 with rfl | rfl <;> rcases hd with rfl | rfl <;> omega
/-- an offer's frame: only count, best rank and codes of g change -/
abbrev OFr (J J' : zJ) (g : Nat) : Prop := ∀ a k, a ≠ g + 1 → ¬ (a = g ∧ (k = 1 ∨ k = 8)) → J' a k = J a k
theorem Offer.keep {J J' : zJ} {g d : Nat} {base rows : Int} (hg : isGoods g) (hd : isBoard d) (h : Offer J g d base rows) (fr : OFr J J' g) : Offer J' g d base rows ∧ J' g 5 = J g 5 ∧ J' g 6 = J g 6 ∧ J' g 7 = J g 7 := by
  obtain ⟨n1, n2, n3, n4, n5, n6⟩ := gb_ne hg hd
  obtain ⟨⟨t1, t2, t3⟩, h1, h2, h3, h4, h5, h6⟩ := h
  have e5 : J' g 5 = J g 5 := fr g 5 (by omega) (by omega)
  have e6 : J' g 6 = J g 6 := fr g 6 (by omega) (by omega)
  have e7 : J' g 7 = J g 7 := fr g 7 (by omega) (by omega)
  refine ⟨⟨⟨fun a ha => ?_, ?_, fun i hi => ?_⟩, h1, h2, by rw [e5]; exact h3, by rw [e5]; exact h4, by rw [e6]; exact h5, by rw [e7]; exact h6⟩, e5, e6, e7⟩
  · rw [fr (d + 1) a n5 (fun q => n2 q.1)]; exact t1 a ha
  · rw [fr d 2 n4 (fun q => n1 q.1)]; exact t2
  · rw [fr (d + 2) i n6 (fun q => n3 q.1)]; exact t3 i hi
def sglS (w base : Int) (ls : List Int) (s : GSt) (bs : List Nat) : GSt := bs.foldl (fun (s : GSt) (a : Nat) => offS (rnk w (snd base a) 1) (-1) a ls s) s
theorem sglS_ok {w base : Int} {ls : List Int} (hl : ∀ l ∈ ls, bt1 l) (hn : ls ≠ []) : ∀ (bs : List Nat) {s : GSt}, (∀ a ∈ bs, a < 72) → okS s → okS (sglS w base ls s bs)
  | [], _, _, h => h
  | a :: bs, s, hb, h => sglS_ok hl hn bs (fun x hx => hb x (List.mem_cons_of_mem _ hx)) (okS_off h (rnk_le (by omega) (by omega)) (by decide) (by have := hb a List.mem_cons_self; exact ⟨by omega, by omega⟩) hl hn)
theorem take_snoc {α : Type} {l : List α} {i : Nat} (h : i < l.length) (d : α) : l.take (i + 1) = l.take i ++ [l.getD i d] := by
  rw [List.take_succ, List.getElem?_eq_getElem h, List.getD_eq_getElem?_getD, List.getElem?_eq_getElem h]
  rfl

theorem lpSgl {G : gx_G} {X : gx_X} (hG : gx_OK G 76) (B : gx_B G X RX3 cX3_offerSingles 4 rmX3_offerSingles 76) {g d : Nat} (hg : isGoods g) (hd : isBoard d) {J0 : zJ} {base rows w : Int} {ls : List Int} (hls : ∀ l ∈ ls, bt1 l) (hln : ls ≠ []) {s0 : GSt} (ok0 : okS s0) (Rt : gx_Rv G X (zpv (fun J' => GSB J' g (sglS w base ls s0 (cbl rows)) ∧ OFr J0 J' g))) : ∀ i : Nat, i ≤ (cbl rows).length → ∀ (J : zJ), Offer J g d base rows → J g 5 = w → lowsOf (J g 6) (J g 7) = ls → GSB J g (sglS w base ls s0 ((cbl rows).take i)) → OFr J0 J g → gx_WG G X 4 (zh J) 2 [(0, .ref (gx_ad G g)), (1, .ref (gx_ad G d)), (2, .int (zI (i : Int)))] [] := by
  refine up_ind (fun i hi ih => ?_)
  intro J hO hw hl hs hfr
  have hT2 := hO.1.2.1
  have h48 : (cbl rows).length ≤ 48 := cbl_len (by omega)
  refine gx_iload_n B dX3_offerSingles_2 rfl rfl ?_
  refine gx_aload_n B dX3_offerSingles_3 rfl rfl ?_
  refine z_geti B fl_X3_64 (kBoard hd) (bBoard hd) (zBoard2 hd) dX3_offerSingles_4 ?_
  refine z_icmp_ge (tgt := 36) B dX3_offerSingles_7 ⟨by omega, by omega⟩ ⟨by omega, by omega⟩ (by decide) (fun c7 => ?_) (fun c7 => ?_)
  · refine z_ret B Rt dX3_offerSingles_36 ?_
    obtain rfl : i = (cbl rows).length := by omega
    rw [List.take_length] at hs
    exact ⟨hs, hfr⟩
  · refine gx_aload_n B dX3_offerSingles_10 rfl rfl ?_
    refine gx_getr (t := (d + 2)) B fl_X3_67 (kBoard hd) (bBoard hd) (rBoard1 hd) dX3_offerSingles_11 ?_
    refine gx_iload_n B dX3_offerSingles_14 rfl rfl ?_
    refine z_iald i B (aBoard2 hd) (cBoard2 hd) rfl (show i < 48 by omega) (by decide) dX3_offerSingles_15 ?_
    refine z_istore_n (fun v => [(0, .ref (gx_ad G g)), (1, .ref (gx_ad G d)), (2, .int (zI (i : Int))), (3, .int (zI v))]) B dX3_offerSingles_16 rfl (by decide) rfl (fun _ => rfl) (fun v3 hv3 => ?_)
    obtain rfl : v3 = ((cbl rows).getD i 0 : Int) := by rw [hv3]; exact hO.1.2.2 i (by omega)
    have hm := cblN_mem (cbl_at (rows := rows) (i := i) (by omega))
    refine gx_aload_n B dX3_offerSingles_17 rfl rfl ?_
    refine z_iconst B dX3_offerSingles_18 ?_
    refine gx_iload_n B dX3_offerSingles_19 rfl rfl ?_
    refine z_iconst B dX3_offerSingles_20 ?_
    refine gx_aload_n B dX3_offerSingles_21 rfl rfl ?_
    refine gx_getr (t := (d + 1)) B fl_X3_70 (kBoard hd) (bBoard hd) (rBoard0 hd) dX3_offerSingles_22 ?_
    refine gx_iload_n B dX3_offerSingles_25 rfl rfl ?_
    refine z_iald ((cbl rows).getD i 0) B (aBoard1 hd) (cBoard1 hd) rfl hm.1 (by decide) dX3_offerSingles_26 ?_
    rw [show J (d + 1) ((cbl rows).getD i 0) = snd base ((cbl rows).getD i 0 : Int) from (by rw [hO.1.1 _ hm.1]; unfold ntc; rw [if_pos hm.2.2])]
    have hsn := snd_eq hO.2.1 hO.2.2.1 hm.1
    have hsn2 : 0 ≤ snd base ((cbl rows).getD i 0 : Int) ∧ snd base ((cbl rows).getD i 0 : Int) ≤ 4095 := ⟨by omega, by omega⟩
    have okc : okS (sglS w base ls s0 ((cbl rows).take i)) := sglS_ok hls hln _ (fun a ha => (cblN_mem (List.mem_of_mem_take ha)).1) ok0
    refine z_callVv [.int (zI (-1)), .int (zI ((cbl rows).getD i 0 : Int)), .int (zI 1), .int (zI (snd base ((cbl rows).getD i 0 : Int)))] B lv_X3_49 (mX3_offer hG hg J (f := -1) (z := ((cbl rows).getD i 0 : Int)) (b := 1) (nt := snd base ((cbl rows).getD i 0 : Int)) (by decide) ⟨by omega, by omega⟩ (by omega) (by omega) hsn2.1 hsn2.2 hO.2.2.2.1 hO.2.2.2.2.1 hO.2.2.2.2.2.1 hO.2.2.2.2.2.2 (sglS w base ls s0 ((cbl rows).take i)) hs okc) (kGoods hg) (bGoods hg) rfl rfl (Nat.le_of_ble_eq_true rfl) (by decide) (by decide) dX3_offerSingles_27 (fun J1 hJ1 => ?_)
    refine z_iinc (fun v => [(0, .ref (gx_ad G g)), (1, .ref (gx_ad G d)), (2, .int (zI v)), (3, .int (zI ((cbl rows).getD i 0 : Int)))]) B dX3_offerSingles_30 rfl (by decide) rfl (fun _ => rfl) (fun v2 hv2 => ?_)
    obtain rfl : v2 = ((i + 1 : Nat) : Int) := by omega
    refine gx_goto (tgt := 2) B dX3_offerSingles_33 (by decide) ?_
    refine gx_sub [0, 1, 2] rfl ?_
    obtain ⟨hO1, e5, e6, e7⟩ := hO.keep hg hd hJ1.2
    refine ih (by omega) J1 hO1 (by rw [e5]; exact hw) (by rw [e6, e7]; exact hl) ?_ (fun a k h1 h2 => (hJ1.2 a k h1 h2).trans (hfr a k h1 h2))
    rw [take_snoc (by omega) 0]
    unfold sglS
    rw [List.foldl_append]
    have h9 := hJ1.1
    rw [hw, hl] at h9
    exact h9

theorem mX3_offerSingles {l : Launch} {G : gx_G} (hG : gx_OK G 76) {g d : Nat} (hg : isGoods g) (hd : isBoard d) (J : zJ) {base rows : Int} (hO : Offer J g d base rows) (s0 : GSt) (hs : GSB J g s0) (ok0 : okS s0) : zMv l G yX3_offerSingles cX3_offerSingles 4 rmX3_offerSingles [.ref (gx_ad G g), .ref (gx_ad G d)] J (fun J' => GSB J' g (sglS (J g 5) base (lowsOf (J g 6) (J g 7)) s0 (cbl rows)) ∧ OFr J J' g) := by
  refine gx_mv hG (by decide) (Nat.le_of_ble_eq_true rfl) (fun X hla B Rt => ?_)
  subst hla
  have B : gx_B G X RX3 cX3_offerSingles 4 rmX3_offerSingles 76 := B
  show gx_WG G X 4 (zh J) 0 [(0, .ref (gx_ad G g)), (1, .ref (gx_ad G d))] []
  refine z_iconst B dX3_offerSingles_0 ?_
  refine z_istore_n (fun v => [(0, .ref (gx_ad G g)), (1, .ref (gx_ad G d)), (2, .int (zI v))]) B dX3_offerSingles_1 rfl (by decide) rfl (fun _ => rfl) (fun v hv => ?_)
  subst hv
  exact lpSgl hG B hg hd (lowsOf_bt hO.2.2.2.2.2.1 hO.2.2.2.2.2.2) (lowsOf_ne _ _) ok0 Rt 0 (by omega) J hO rfl rfl hs (fun _ _ _ _ => rfl)
end
section

def inS (w base : Int) (ls : List Int) (a : Nat) (s : GSt) (bs : List Nat) : GSt := bs.foldl (fun (s : GSt) (b : Nat) => offS (rnk w (zor (snd base a) (snd base b)) 2) a b ls s) s
def prS (w base : Int) (ls : List Int) : GSt → List Nat → GSt
  | s, [] => s
  | s, a :: bs => prS w base ls (inS w base ls a s bs) bs
theorem drop_cons {l : List Nat} {i : Nat} (h : i < l.length) : l.drop i = l.getD i 0 :: l.drop (i + 1) := by
  rw [List.drop_eq_getElem_cons h, List.getD_eq_getElem?_getD, List.getElem?_eq_getElem h]
  rfl
theorem inS_ok {w base : Int} {ls : List Int} (hl : ∀ l ∈ ls, bt1 l) (hn : ls ≠ []) {a : Nat} (ha : a < 72) : ∀ (bs : List Nat) {s : GSt}, (∀ b ∈ bs, b < 72) → okS s → okS (inS w base ls a s bs)
  | [], _, _, h => h
  | b :: bs, s, hb, h => inS_ok hl hn ha bs (fun x hx => hb x (List.mem_cons_of_mem _ hx)) (okS_off h (rnk_le (by omega) (by omega)) ⟨by omega, by omega⟩ (by have := hb b List.mem_cons_self; exact ⟨by omega, by omega⟩) hl hn)

theorem lpPrI {G : gx_G} {X : gx_X} (hG : gx_OK G 76) (B : gx_B G X RX3 cX3_offerPairs 6 rmX3_offerPairs 76) {g d : Nat} (hg : isGoods g) (hd : isBoard d) {J0 : zJ} {base rows w : Int} {ls : List Int} (hls : ∀ l ∈ ls, bt1 l) (hln : ls ≠ []) (F : GSt) {i : Nat} (hi0 : i < (cbl rows).length) (kk : ∀ (J : zJ) (s : GSt), Offer J g d base rows → J g 5 = w → lowsOf (J g 6) (J g 7) = ls → GSB J g s → okS s → OFr J0 J g → F = prS w base ls s ((cbl rows).drop (i + 1)) → gx_WG G X 6 (zh J) 68 [(0, .ref (gx_ad G g)), (1, .ref (gx_ad G d)), (2, .int (zI (i : Int)))] []) : ∀ j : Nat, j ≤ (cbl rows).length → ∀ (J : zJ) (s : GSt), Offer J g d base rows → J g 5 = w → lowsOf (J g 6) (J g 7) = ls → GSB J g s → okS s → OFr J0 J g → F = prS w base ls (inS w base ls ((cbl rows).getD i 0) s ((cbl rows).drop j)) ((cbl rows).drop (i + 1)) → gx_WG G X 6 (zh J) 22 [(0, .ref (gx_ad G g)), (1, .ref (gx_ad G d)), (2, .int (zI (i : Int))), (3, .int (zI ((cbl rows).getD i 0 : Int))), (4, .int (zI (j : Int)))] [] := by
  refine up_ind (fun j hi ih => ?_)
  intro J s hO hw hl hs ok hfr hF
  have hT2 := hO.1.2.1
  have h48 : (cbl rows).length ≤ 48 := cbl_len (by omega)
  have hma := cblN_mem (cbl_at (rows := rows) hi0)
  have hsa := snd_eq hO.2.1 hO.2.2.1 hma.1
  refine gx_iload B dX3_offerPairs_22 rfl ?_
  refine gx_aload_n B dX3_offerPairs_24 rfl rfl ?_
  refine z_geti B fl_X3_64 (kBoard hd) (bBoard hd) (zBoard2 hd) dX3_offerPairs_25 ?_
  refine z_icmp_ge (tgt := 68) B dX3_offerPairs_28 ⟨by omega, by omega⟩ ⟨by omega, by omega⟩ (by decide) (fun c28 => ?_) (fun c28 => ?_)
  · refine gx_sub [0, 1, 2] rfl ?_
    refine kk J s hO hw hl hs ok hfr ?_
    rw [hF, List.drop_eq_nil_of_le (show (cbl rows).length ≤ j by omega)]
    rfl
  · refine gx_aload_n B dX3_offerPairs_31 rfl rfl ?_
    refine gx_getr (t := (d + 2)) B fl_X3_67 (kBoard hd) (bBoard hd) (rBoard1 hd) dX3_offerPairs_32 ?_
    refine gx_iload B dX3_offerPairs_35 rfl ?_
    refine z_iald j B (aBoard2 hd) (cBoard2 hd) rfl (show j < 48 by omega) (by decide) dX3_offerPairs_37 ?_
    refine z_istore (fun v => [(0, .ref (gx_ad G g)), (1, .ref (gx_ad G d)), (2, .int (zI (i : Int))), (3, .int (zI ((cbl rows).getD i 0 : Int))), (4, .int (zI (j : Int))), (5, .int (zI v))]) B dX3_offerPairs_38 (by decide) rfl (fun _ => rfl) (fun v5 hv5 => ?_)
    obtain rfl : v5 = ((cbl rows).getD j 0 : Int) := by rw [hv5]; exact hO.1.2.2 j (by omega)
    have hm := cblN_mem (cbl_at (rows := rows) (i := j) (by omega))
    have hsn := snd_eq hO.2.1 hO.2.2.1 hm.1
    have hsn2 := zor_le (a := snd base ((cbl rows).getD i 0 : Int)) (b := snd base ((cbl rows).getD j 0 : Int)) (by omega) (by omega) (by omega) (by omega)
    refine gx_aload_n B dX3_offerPairs_40 rfl rfl ?_
    refine gx_iload_n B dX3_offerPairs_41 rfl rfl ?_
    refine gx_iload B dX3_offerPairs_42 rfl ?_
    refine z_iconst B dX3_offerPairs_44 ?_
    refine gx_aload_n B dX3_offerPairs_45 rfl rfl ?_
    refine gx_getr (t := (d + 1)) B fl_X3_70 (kBoard hd) (bBoard hd) (rBoard0 hd) dX3_offerPairs_46 ?_
    refine gx_iload_n B dX3_offerPairs_49 rfl rfl ?_
    refine z_iald ((cbl rows).getD i 0) B (aBoard1 hd) (cBoard1 hd) rfl hma.1 (by decide) dX3_offerPairs_50 ?_
    rw [show J (d + 1) ((cbl rows).getD i 0) = snd base ((cbl rows).getD i 0 : Int) from (by rw [hO.1.1 _ hma.1]; unfold ntc; rw [if_pos hma.2.2])]
    refine gx_aload_n B dX3_offerPairs_51 rfl rfl ?_
    refine gx_getr (t := (d + 1)) B fl_X3_70 (kBoard hd) (bBoard hd) (rBoard0 hd) dX3_offerPairs_52 ?_
    refine gx_iload B dX3_offerPairs_55 rfl ?_
    refine z_iald ((cbl rows).getD j 0) B (aBoard1 hd) (cBoard1 hd) rfl hm.1 (by decide) dX3_offerPairs_57 ?_
    rw [show J (d + 1) ((cbl rows).getD j 0) = snd base ((cbl rows).getD j 0 : Int) from (by rw [hO.1.1 _ hm.1]; unfold ntc; rw [if_pos hm.2.2])]
    refine z_ior B dX3_offerPairs_58 ?_
    refine z_callVv [.int (zI ((cbl rows).getD i 0 : Int)), .int (zI ((cbl rows).getD j 0 : Int)), .int (zI 2), .int (zI (zor (snd base ((cbl rows).getD i 0 : Int)) (snd base ((cbl rows).getD j 0 : Int))))] B lv_X3_49 (mX3_offer hG hg J (f := ((cbl rows).getD i 0 : Int)) (z := ((cbl rows).getD j 0 : Int)) (b := 2) (nt := zor (snd base ((cbl rows).getD i 0 : Int)) (snd base ((cbl rows).getD j 0 : Int))) ⟨by omega, by omega⟩ ⟨by omega, by omega⟩ (by omega) (by omega) hsn2.1 hsn2.2 hO.2.2.2.1 hO.2.2.2.2.1 hO.2.2.2.2.2.1 hO.2.2.2.2.2.2 s hs ok) (kGoods hg) (bGoods hg) rfl rfl (Nat.le_of_ble_eq_true rfl) (by decide) (by decide) dX3_offerPairs_59 (fun J1 hJ1 => ?_)
    refine z_iinc (fun v => [(0, .ref (gx_ad G g)), (1, .ref (gx_ad G d)), (2, .int (zI (i : Int))), (3, .int (zI ((cbl rows).getD i 0 : Int))), (4, .int (zI v)), (5, .int (zI ((cbl rows).getD j 0 : Int)))]) B dX3_offerPairs_62 rfl (by decide) rfl (fun _ => rfl) (fun v4 hv4 => ?_)
    obtain rfl : v4 = ((j + 1 : Nat) : Int) := by omega
    refine gx_goto (tgt := 22) B dX3_offerPairs_65 (by decide) ?_
    refine gx_sub [0, 1, 2, 3, 4] rfl ?_
    obtain ⟨hO1, e5, e6, e7⟩ := hO.keep hg hd hJ1.2
    have h9 := hJ1.1
    rw [hw, hl] at h9
    refine ih (by omega) J1 (offS (rnk w (zor (snd base ((cbl rows).getD i 0 : Int)) (snd base ((cbl rows).getD j 0 : Int))) 2) ((cbl rows).getD i 0 : Int) ((cbl rows).getD j 0 : Int) ls s) hO1 (by rw [e5]; exact hw) (by rw [e6, e7]; exact hl) h9 (okS_off ok (rnk_le (by omega) (by omega)) ⟨by omega, by omega⟩ ⟨by omega, by omega⟩ hls hln) (fun a k h1 h2 => (hJ1.2 a k h1 h2).trans (hfr a k h1 h2)) ?_
    rw [hF, drop_cons (show j < (cbl rows).length by omega)]
    rfl

theorem lpPrO {G : gx_G} {X : gx_X} (hG : gx_OK G 76) (B : gx_B G X RX3 cX3_offerPairs 6 rmX3_offerPairs 76) {g d : Nat} (hg : isGoods g) (hd : isBoard d) {J0 : zJ} {base rows w : Int} {ls : List Int} (hls : ∀ l ∈ ls, bt1 l) (hln : ls ≠ []) (F : GSt) (Rt : gx_Rv G X (zpv (fun J' => GSB J' g F ∧ OFr J0 J' g))) : ∀ i : Nat, i ≤ (cbl rows).length → ∀ (J : zJ) (s : GSt), Offer J g d base rows → J g 5 = w → lowsOf (J g 6) (J g 7) = ls → GSB J g s → okS s → OFr J0 J g → F = prS w base ls s ((cbl rows).drop i) → gx_WG G X 6 (zh J) 2 [(0, .ref (gx_ad G g)), (1, .ref (gx_ad G d)), (2, .int (zI (i : Int)))] [] := by
  refine up_ind (fun i hi ih => ?_)
  intro J s hO hw hl hs ok hfr hF
  have hT2 := hO.1.2.1
  have h48 : (cbl rows).length ≤ 48 := cbl_len (by omega)
  refine gx_iload_n B dX3_offerPairs_2 rfl rfl ?_
  refine gx_aload_n B dX3_offerPairs_3 rfl rfl ?_
  refine z_geti B fl_X3_64 (kBoard hd) (bBoard hd) (zBoard2 hd) dX3_offerPairs_4 ?_
  refine z_icmp_ge (tgt := 74) B dX3_offerPairs_7 ⟨by omega, by omega⟩ ⟨by omega, by omega⟩ (by decide) (fun c7 => ?_) (fun c7 => ?_)
  · refine z_ret B Rt dX3_offerPairs_74 ?_
    rw [List.drop_eq_nil_of_le (show (cbl rows).length ≤ i by omega)] at hF
    rw [hF]
    exact ⟨hs, hfr⟩
  · refine gx_aload_n B dX3_offerPairs_10 rfl rfl ?_
    refine gx_getr (t := (d + 2)) B fl_X3_67 (kBoard hd) (bBoard hd) (rBoard1 hd) dX3_offerPairs_11 ?_
    refine gx_iload_n B dX3_offerPairs_14 rfl rfl ?_
    refine z_iald i B (aBoard2 hd) (cBoard2 hd) rfl (show i < 48 by omega) (by decide) dX3_offerPairs_15 ?_
    refine z_istore_n (fun v => [(0, .ref (gx_ad G g)), (1, .ref (gx_ad G d)), (2, .int (zI (i : Int))), (3, .int (zI v))]) B dX3_offerPairs_16 rfl (by decide) rfl (fun _ => rfl) (fun v3 hv3 => ?_)
    obtain rfl : v3 = ((cbl rows).getD i 0 : Int) := by rw [hv3]; exact hO.1.2.2 i (by omega)
    refine gx_iload_n B dX3_offerPairs_17 rfl rfl ?_
    refine z_iconst B dX3_offerPairs_18 ?_
    refine z_iadd B dX3_offerPairs_19 ?_
    refine z_istore (fun v => [(0, .ref (gx_ad G g)), (1, .ref (gx_ad G d)), (2, .int (zI (i : Int))), (3, .int (zI ((cbl rows).getD i 0 : Int))), (4, .int (zI v))]) B dX3_offerPairs_20 (by decide) rfl (fun _ => rfl) (fun v4 hv4 => ?_)
    obtain rfl : v4 = ((i + 1 : Nat) : Int) := by omega
    have hma := cblN_mem (cbl_at (rows := rows) (i := i) (by omega))
    refine lpPrI hG B hg hd hls hln F (i := i) (by omega) ?_ (i + 1) (by omega) J s hO hw hl hs ok hfr ?_
    · intro J s hO hw hl hs ok hfr hF
      refine z_iinc (fun v => [(0, .ref (gx_ad G g)), (1, .ref (gx_ad G d)), (2, .int (zI v))]) B dX3_offerPairs_68 rfl (by decide) rfl (fun _ => rfl) (fun v2 hv2 => ?_)
      obtain rfl : v2 = ((i + 1 : Nat) : Int) := by omega
      refine gx_goto (tgt := 2) B dX3_offerPairs_71 (by decide) ?_
      exact ih (by omega) J s hO hw hl hs ok hfr hF
    · rw [hF, drop_cons (show i < (cbl rows).length by omega)]
      rfl

theorem mX3_offerPairs {l : Launch} {G : gx_G} (hG : gx_OK G 76) {g d : Nat} (hg : isGoods g) (hd : isBoard d) (J : zJ) {base rows : Int} (hO : Offer J g d base rows) (s0 : GSt) (hs : GSB J g s0) (ok0 : okS s0) : zMv l G yX3_offerPairs cX3_offerPairs 6 rmX3_offerPairs [.ref (gx_ad G g), .ref (gx_ad G d)] J (fun J' => GSB J' g (prS (J g 5) base (lowsOf (J g 6) (J g 7)) s0 (cbl rows)) ∧ OFr J J' g) := by
  refine gx_mv hG (by decide) (Nat.le_of_ble_eq_true rfl) (fun X hla B Rt => ?_)
  subst hla
  have B : gx_B G X RX3 cX3_offerPairs 6 rmX3_offerPairs 76 := B
  show gx_WG G X 6 (zh J) 0 [(0, .ref (gx_ad G g)), (1, .ref (gx_ad G d))] []
  refine z_iconst B dX3_offerPairs_0 ?_
  refine z_istore_n (fun v => [(0, .ref (gx_ad G g)), (1, .ref (gx_ad G d)), (2, .int (zI v))]) B dX3_offerPairs_1 rfl (by decide) rfl (fun _ => rfl) (fun v hv => ?_)
  subst hv
  exact lpPrO hG B hg hd (lowsOf_bt hO.2.2.2.2.2.1 hO.2.2.2.2.2.2) (lowsOf_ne _ _) _ Rt 0 (by omega) J s0 hO rfl rfl hs ok0 (fun _ _ _ _ => rfl) rfl
end
section

theorem cblN_pos {rows : Int} {i : Nat} (h1 : 2 ≤ i % 6) (h2 : thr rows i) : cblN rows (i + 1) = cblN rows i ++ [i] := by
  unfold cblN
  rw [List.range_succ, List.filter_append]
  have : (decide (2 ≤ i % 6) && decide (thr rows i)) = true := by rw [decide_eq_true h1, decide_eq_true h2]; rfl
  simp [this]
theorem cblN_neg {rows : Int} {i : Nat} (h : ¬ (2 ≤ i % 6 ∧ thr rows i)) : cblN rows (i + 1) = cblN rows i := by
  unfold cblN
  rw [List.range_succ, List.filter_append]
  have : (decide (2 ≤ i % 6) && decide (thr rows i)) = false := by
    rw [Bool.and_eq_false_iff]
    by_cases h1 : 2 ≤ i % 6
    · exact Or.inr (decide_eq_false (fun q => h ⟨h1, q⟩))
    · exact Or.inl (decide_eq_false h1)
  simp [this]
theorem snocD {l : List Nat} {x k : Nat} (h : k < (l ++ [x]).length) : (l ++ [x]).getD k 0 = if k < l.length then l.getD k 0 else x := by
  simp only [List.length_append, List.length_cons, List.length_nil] at h
  simp only [List.getD_eq_getElem?_getD]
  by_cases e : k < l.length
  · rw [if_pos e, List.getElem?_append_left e]
  · rw [if_neg e, List.getElem?_append_right (by omega), show k - l.length = 0 by omega]
    rfl
def TunedN (J : zJ) (d : Nat) (base rows : Int) (n : Nat) : Prop := (∀ a : Nat, a < n → J (d + 1) a = ntc base rows a) ∧ J d 2 = ((cblN rows n).length : Int) ∧ ∀ i, i < (cblN rows n).length → J (d + 2) i = ((cblN rows n).getD i 0 : Int)
abbrev BFr (J J' : zJ) (d : Nat) : Prop := ∀ a k, a ≠ d + 1 → a ≠ d + 2 → ¬ (a = d ∧ k = 2) → J' a k = J a k
theorem tune_no {J : zJ} {d i : Nat} {base rows v : Int} (h : TunedN J d base rows i) (hv : v = ntc base rows i) (hc : ¬ (2 ≤ i % 6 ∧ thr rows i)) : TunedN (zup J (d + 1) i v) d base rows (i + 1) := by
  obtain ⟨h1, h2, h3⟩ := h
  refine ⟨fun a ha => ?_, ?_, fun k hk => ?_⟩
  · by_cases e : a = i
    · rw [e, zup_self]; exact hv
    · rw [zup_ne (by omega)]; exact h1 a (by omega)
  · rw [zup_ne (by omega), cblN_neg hc]; exact h2
  · rw [cblN_neg hc] at hk ⊢
    rw [zup_ne (by omega)]; exact h3 k hk
theorem tune_yes {J : zJ} {d i : Nat} {base rows v : Int} (h : TunedN J d base rows i) (hv : v = ntc base rows i) (h6 : 2 ≤ i % 6) (hc : thr rows i) : TunedN (zup (zup (zup J (d + 1) i v) (d + 2) (cblN rows i).length (i : Int)) d 2 (((cblN rows i).length : Int) + 1)) d base rows (i + 1) := by
  obtain ⟨h1, h2, h3⟩ := h
  refine ⟨fun a ha => ?_, ?_, fun k hk => ?_⟩
  · rw [zup_ne (by omega), zup_ne (by omega)]
    by_cases e : a = i
    · rw [e, zup_self]; exact hv
    · rw [zup_ne (by omega)]; exact h1 a (by omega)
  · rw [zup_self, cblN_pos h6 hc]; simp
  · rw [cblN_pos h6 hc] at hk ⊢
    rw [snocD hk, zup_ne (by omega)]
    by_cases e : k < (cblN rows i).length
    · rw [if_pos e, zup_ne (by omega), zup_ne (by omega)]; exact h3 k e
    · simp only [List.length_append, List.length_cons, List.length_nil] at hk
      rw [if_neg e, show k = (cblN rows i).length by omega, zup_self]

theorem lpTune {G : gx_G} {X : gx_X} (hG : gx_OK G 76) (B : gx_B G X RX1 cX1_tune 6 rmX1_tune 76) {d : Nat} (hd : isBoard d) {J0 : zJ} {base rows : Int} (hb0 : 0 ≤ base) (hb1 : base < 12) (Rt : gx_Rv G X (zpv (fun J' => Tuned J' d base rows ∧ BFr J0 J' d))) : ∀ i : Nat, i ≤ 72 → ∀ (J : zJ), TunedN J d base rows i → BFr J0 J d → gx_WG G X 6 (zh J) 7 [(0, .ref (gx_ad G d)), (1, .int (zI base)), (2, .int (zI rows)), (3, .int (zI (i : Int)))] [] := by
  refine up_ind (fun i hi ih => ?_)
  intro J hT hfr
  have hz : zrem (i : Int) 6 = ((i % 6 : Nat) : Int) := by rw [zrem_nn (by omega) (by omega) (by omega) (by omega)]; omega
  refine gx_iload_n B dX1_tune_7 rfl rfl ?_
  refine z_bipush B dX1_tune_8 (by decide) ?_
  refine z_icmp_ge (tgt := 114) B dX1_tune_10 ⟨by omega, by omega⟩ ⟨by omega, by omega⟩ (by decide) (fun c10 => ?_) (fun c10 => ?_)
  · refine z_ret B Rt dX1_tune_114 ?_
    obtain rfl : i = 72 := by omega
    exact ⟨hT, hfr⟩
  · refine gx_iload_n B dX1_tune_13 rfl rfl ?_
    refine z_bipush B dX1_tune_14 (by decide) ?_
    refine z_irem B dX1_tune_16 (by decide) ?_
    refine z_istore (fun v => [(0, .ref (gx_ad G d)), (1, .int (zI base)), (2, .int (zI rows)), (3, .int (zI (i : Int))), (4, .int (zI v))]) B dX1_tune_17 (by decide) rfl (fun _ => rfl) (fun v4 hv4 => ?_)
    obtain rfl : v4 = ((i % 6 : Nat) : Int) := by rw [hv4]; exact hz
    refine gx_iload_n B dX1_tune_19 rfl rfl ?_
    refine gx_iload B dX1_tune_20 rfl ?_
    refine z_ishr B dX1_tune_22 ?_
    refine z_iconst B dX1_tune_23 ?_
    refine z_iand B dX1_tune_24 ?_
    refine z_iconst B dX1_tune_25 ?_
    refine z_icmp_ne (tgt := 33) B dX1_tune_26 (zandB _ _) ⟨by omega, by omega⟩ (by decide) (fun c26 => ?_) (fun c26 => ?_)
    · have ht : ¬ thr rows i := by unfold thr; rw [hz]; exact c26
      have hv0 : (0 : Int) = ntc base rows i := by unfold ntc; rw [if_neg ht]
      refine z_iconst B dX1_tune_33 ?_
      refine z_istore (fun v => [(0, .ref (gx_ad G d)), (1, .int (zI base)), (2, .int (zI rows)), (3, .int (zI (i : Int))), (4, .int (zI ((i % 6 : Nat) : Int))), (5, .int (zI v))]) B dX1_tune_34 (by decide) rfl (fun _ => rfl) (fun v hv => ?_)
      subst hv
      refine gx_aload_n B dX1_tune_36 rfl rfl ?_
      refine gx_getr (t := (d + 1)) B fl_X1_9 (kBoard hd) (bBoard hd) (rBoard0 hd) dX1_tune_37 ?_
      refine gx_iload_n B dX1_tune_40 rfl rfl ?_
      refine gx_iload B dX1_tune_41 rfl ?_
      refine z_if_eq (tgt := 66) B dX1_tune_43 ⟨by omega, by omega⟩ (by decide) (fun c43_1 => ?_) (fun c43_1 => ?_)
      · refine z_iconst B dX1_tune_66 ?_
        refine z_iast i B (aBoard1 hd) (cBoard1 hd) rfl (show i < 72 by omega) (by decide) dX1_tune_67 (fun JN hJN => ?_)
        refine gx_iload B dX1_tune_68 rfl ?_
        refine z_if_eq (tgt := 108) B dX1_tune_70 ⟨by omega, by omega⟩ (by decide) (fun c70_2 => ?_) (fun c70_2 => ?_)
        · refine z_iinc (fun v => [(0, .ref (gx_ad G d)), (1, .int (zI base)), (2, .int (zI rows)), (3, .int (zI v)), (4, .int (zI ((i % 6 : Nat) : Int))), (5, .int (zI 0))]) B dX1_tune_108 rfl (by decide) rfl (fun _ => rfl) (fun v3 hv3 => ?_)
          obtain rfl : v3 = ((i + 1 : Nat) : Int) := by omega
          refine gx_goto (tgt := 7) B dX1_tune_111 (by decide) ?_
          refine gx_sub [0, 1, 2, 3] rfl ?_
          refine ih (by omega) JN ?_ (fun a k h1 h2 h3 => ?_)
          · rw [hJN]
            exact tune_no hT hv0 (by first | exact (fun q => ht q.2) | omega)
          · rw [hJN, zup_ne (by omega)]; exact hfr a k h1 h2 h3
        · exact absurd c70_2 (by decide)
      · exact absurd c43_1 (by decide)
    · have ht : thr rows i := by unfold thr; rw [hz]; exact c26
      have hv0 : zand (zor (zshl (z_rowN (i % 6)) (zrem (base + 7 * zdiv (i : Int) 6) 12)) (zshr (z_rowN (i % 6)) (12 - zrem (base + 7 * zdiv (i : Int) 6) 12))) 4095 = ntc base rows i := by
        unfold ntc
        rw [if_pos ht, ← (snd_eq hb0 hb1 (show i < 72 by omega)).1]
        unfold sndC
        rw [hz, Int.toNat_natCast]
      refine z_iconst B dX1_tune_29 ?_
      refine gx_goto (tgt := 34) B dX1_tune_30 (by decide) ?_
      refine z_istore (fun v => [(0, .ref (gx_ad G d)), (1, .int (zI base)), (2, .int (zI rows)), (3, .int (zI (i : Int))), (4, .int (zI ((i % 6 : Nat) : Int))), (5, .int (zI v))]) B dX1_tune_34 (by decide) rfl (fun _ => rfl) (fun v hv => ?_)
      subst hv
      refine gx_aload_n B dX1_tune_36 rfl rfl ?_
      refine gx_getr (t := (d + 1)) B fl_X1_9 (kBoard hd) (bBoard hd) (rBoard0 hd) dX1_tune_37 ?_
      refine gx_iload_n B dX1_tune_40 rfl rfl ?_
      refine gx_iload B dX1_tune_41 rfl ?_
      refine z_if_eq (tgt := 66) B dX1_tune_43 ⟨by omega, by omega⟩ (by decide) (fun c43_3 => ?_) (fun c43_3 => ?_)
      · exact absurd c43_3 (by decide)
      · refine gx_getRow B rfl dX1_tune_46 ?_
        refine gx_iload B dX1_tune_49 rfl ?_
        refine z_rowAt (i % 6) B rfl (show i % 6 < 6 by omega) dX1_tune_51 ?_
        refine gx_iload_n B dX1_tune_52 rfl rfl ?_
        refine gx_iload_n B dX1_tune_53 rfl rfl ?_
        refine z_bipush B dX1_tune_54 (by decide) ?_
        refine z_idiv B dX1_tune_56 (by decide) ?_
        refine z_callRoot [.int (zI base), .int (zI (zdiv (i : Int) 6))] B rfl (mX5_rootOf hG J (a := base) (b := zdiv (i : Int) 6)) rfl rfl (Nat.le_of_ble_eq_true rfl) (by decide) (by decide) dX1_tune_57 (fun r5 J4 hJ4 => ?_)
        rw [hJ4.1, hJ4.2]
        refine z_callSi [.int (zI (z_rowN (i % 6))), .int (zI (zrem (base + 7 * (zdiv (i : Int) 6)) 12))] B ls_X1_29 (mX1_raised hG J (a := z_rowN (i % 6)) (b := zrem (base + 7 * (zdiv (i : Int) 6)) 12)) rfl rfl (Nat.le_of_ble_eq_true rfl) (by decide) (by decide) dX1_tune_60 (fun r7 J6 hJ6 => ?_)
        rw [hJ6.1, hJ6.2]
        refine gx_goto (tgt := 67) B dX1_tune_63 (by decide) ?_
        refine z_iast i B (aBoard1 hd) (cBoard1 hd) rfl (show i < 72 by omega) (by decide) dX1_tune_67 (fun JN hJN => ?_)
        refine gx_iload B dX1_tune_68 rfl ?_
        refine z_if_eq (tgt := 108) B dX1_tune_70 ⟨by omega, by omega⟩ (by decide) (fun c70_8 => ?_) (fun c70_8 => ?_)
        · exact absurd c70_8 (by decide)
        · refine gx_iload B dX1_tune_73 rfl ?_
          refine z_iconst B dX1_tune_75 ?_
          refine z_icmp_lt (tgt := 108) B dX1_tune_76 ⟨by omega, by omega⟩ ⟨by omega, by omega⟩ (by decide) (fun c76 => ?_) (fun c76 => ?_)
          · refine z_iinc (fun v => [(0, .ref (gx_ad G d)), (1, .int (zI base)), (2, .int (zI rows)), (3, .int (zI v)), (4, .int (zI ((i % 6 : Nat) : Int))), (5, .int (zI 1))]) B dX1_tune_108 rfl (by decide) rfl (fun _ => rfl) (fun v3 hv3 => ?_)
            obtain rfl : v3 = ((i + 1 : Nat) : Int) := by omega
            refine gx_goto (tgt := 7) B dX1_tune_111 (by decide) ?_
            refine gx_sub [0, 1, 2, 3] rfl ?_
            refine ih (by omega) JN ?_ (fun a k h1 h2 h3 => ?_)
            · rw [hJN]
              exact tune_no hT hv0 (by first | exact (fun q => ht q.2) | omega)
            · rw [hJN, zup_ne (by omega)]; exact hfr a k h1 h2 h3
          · refine gx_aload_n B dX1_tune_79 rfl rfl ?_
            refine z_geti B fl_X1_18 (kBoard hd) (bBoard hd) (zBoard2 hd) dX1_tune_80 ?_
            refine z_bipush B dX1_tune_83 (by decide) ?_
            have eN2 : JN d 2 = ((cblN rows i).length : Int) := by rw [hJN, zup_ne (by omega)]; exact hT.2.1
            have hlen : (cblN rows i).length < 48 := by
              have h9 : (cblN rows (i + 1)).length ≤ 48 := cbl_len (by omega)
              rw [cblN_pos (by omega) ht, List.length_append] at h9
              simp at h9
              omega
            refine z_icmp_ge (tgt := 108) B dX1_tune_85 ⟨by rw [eN2]; omega, by rw [eN2]; omega⟩ ⟨by omega, by omega⟩ (by decide) (fun c85 => ?_) (fun c85 => ?_)
            · exact absurd c85 (by rw [eN2]; omega)
            · refine gx_aload_n B dX1_tune_88 rfl rfl ?_
              refine gx_getr (t := (d + 2)) B fl_X1_15 (kBoard hd) (bBoard hd) (rBoard1 hd) dX1_tune_89 ?_
              refine gx_aload_n B dX1_tune_92 rfl rfl ?_
              refine z_geti B fl_X1_18 (kBoard hd) (bBoard hd) (zBoard2 hd) dX1_tune_93 ?_
              refine gx_iload_n B dX1_tune_96 rfl rfl ?_
              refine z_iast ((JN d 2).toNat) B (aBoard2 hd) (cBoard2 hd) (by rw [eN2]; omega) (by rw [eN2]; omega) (by decide) dX1_tune_97 (fun JB hJB => ?_)
              refine gx_aload_n B dX1_tune_98 rfl rfl ?_
              refine gx_dup B dX1_tune_99 rfl ?_
              refine z_geti B fl_X1_18 (kBoard hd) (bBoard hd) (zBoard2 hd) dX1_tune_100 ?_
              refine z_iconst B dX1_tune_103 ?_
              refine z_iadd B dX1_tune_104 ?_
              refine z_puti B fw_X1_18 (kBoard hd) (bBoard hd) (zBoard2 hd) dX1_tune_105 (fun JK hJK => ?_)
              refine z_iinc (fun v => [(0, .ref (gx_ad G d)), (1, .int (zI base)), (2, .int (zI rows)), (3, .int (zI v)), (4, .int (zI ((i % 6 : Nat) : Int))), (5, .int (zI 1))]) B dX1_tune_108 rfl (by decide) rfl (fun _ => rfl) (fun v3 hv3 => ?_)
              obtain rfl : v3 = ((i + 1 : Nat) : Int) := by omega
              refine gx_goto (tgt := 7) B dX1_tune_111 (by decide) ?_
              refine gx_sub [0, 1, 2, 3] rfl ?_
              have e2 : JN d 2 = ((cblN rows i).length : Int) := by rw [hJN, zup_ne (by omega)]; exact hT.2.1
              have e3 : JB d 2 = ((cblN rows i).length : Int) := by rw [hJB, zup_ne (by omega)]; exact e2
              refine ih (by omega) JK ?_ (fun a k h1 h2 h3 => ?_)
              · rw [hJK, e3, hJB, e2, Int.toNat_natCast, hJN]
                exact tune_yes hT hv0 (by omega) ht
              · rw [hJK, zup_ne h3, hJB, zup_ne (by omega), hJN, zup_ne (by omega)]; exact hfr a k h1 h2 h3

theorem mX1_tune {l : Launch} {G : gx_G} (hG : gx_OK G 76) {d : Nat} (hd : isBoard d) (J : zJ) {base rows : Int} (hb0 : 0 ≤ base) (hb1 : base < 12) : zMv l G yX1_tune cX1_tune 6 rmX1_tune [.ref (gx_ad G d), .int (zI base), .int (zI rows)] J (fun J' => Tuned J' d base rows ∧ BFr J J' d) := by
  refine gx_mv hG (by decide) (Nat.le_of_ble_eq_true rfl) (fun X hla B Rt => ?_)
  subst hla
  have B : gx_B G X RX1 cX1_tune 6 rmX1_tune 76 := B
  show gx_WG G X 6 (zh J) 0 [(0, .ref (gx_ad G d)), (1, .int (zI base)), (2, .int (zI rows))] []
  refine gx_aload_n B dX1_tune_0 rfl rfl ?_
  refine z_iconst B dX1_tune_1 ?_
  refine z_puti B fw_X1_18 (kBoard hd) (bBoard hd) (zBoard2 hd) dX1_tune_2 (fun J1 hJ1 => ?_)
  refine z_iconst B dX1_tune_5 ?_
  refine z_istore_n (fun v => [(0, .ref (gx_ad G d)), (1, .int (zI base)), (2, .int (zI rows)), (3, .int (zI v))]) B dX1_tune_6 rfl (by decide) rfl (fun _ => rfl) (fun v hv => ?_)
  subst hv
  refine lpTune hG B hd hb0 hb1 Rt 0 (by omega) J1 ⟨fun a ha => by omega, by rw [hJ1, zup_self]; rfl, fun k hk => by simp [cblN] at hk⟩ (fun a k h1 h2 h3 => by rw [hJ1, zup_ne h3])


/-- the place i of a code of n buttons *)-/
def digZ (n : Int) (c i : Int) : Int := zand (zshr c (7 * (n - 1 - i))) 127

theorem mX3_buttonAt {l : Launch} {G : gx_G} (hG : gx_OK G 76) {g : Nat} (hg : isGoods g) (J : zJ) {k : Nat} (hk : k < 20) {i : Int} : zMi l G yX3_buttonAt cX3_buttonAt 3 .int rmX3_buttonAt [.ref (gx_ad G g), .int (zI (k : Int)), .int (zI i)] J (fun r J' => r = digZ (J g 2) (J (g + 1) k) i ∧ J' = J) := by
  refine gx_mi hG (by decide) (Nat.le_of_ble_eq_true rfl) (fun X hla B Rt => ?_)
  subst hla
  have B : gx_B G X RX3 cX3_buttonAt 3 rmX3_buttonAt 76 := B
  show gx_WG G X 3 (zh J) 0 [(0, .ref (gx_ad G g)), (1, .int (zI (k : Int))), (2, .int (zI i))] []
  refine gx_aload_n B dX3_buttonAt_0 rfl rfl ?_
  refine gx_getr (t := (g + 1)) B fl_X3_9 (kGoods hg) (bGoods hg) (rGoods0 hg) dX3_buttonAt_1 ?_
  refine gx_iload_n B dX3_buttonAt_4 rfl rfl ?_
  refine z_iald k B (aGoods hg) (cGoods hg) rfl hk (by decide) dX3_buttonAt_5 ?_
  refine z_bipush B dX3_buttonAt_6 (by decide) ?_
  refine gx_aload_n B dX3_buttonAt_8 rfl rfl ?_
  refine z_geti B fl_X3_19 (kGoods hg) (bGoods hg) (zGoods2 hg) dX3_buttonAt_9 ?_
  refine z_iconst B dX3_buttonAt_12 ?_
  refine z_isub B dX3_buttonAt_13 ?_
  refine gx_iload_n B dX3_buttonAt_14 rfl rfl ?_
  refine z_isub B dX3_buttonAt_15 ?_
  refine z_imul B dX3_buttonAt_16 ?_
  refine z_ishr B dX3_buttonAt_17 ?_
  refine z_bipush B dX3_buttonAt_18 (by decide) ?_
  refine z_iand B dX3_buttonAt_20 ?_
  refine z_ireti B Rt dX3_buttonAt_21 ?_
  exact ⟨rfl, rfl⟩

theorem mX3_placeOf {l : Launch} {G : gx_G} (hG : gx_OK G 76) {g : Nat} (hg : isGoods g) (J : zJ) {k : Nat} (hk : k < 20) : zMi l G yX3_placeOf cX3_placeOf 2 .int rmX3_placeOf [.ref (gx_ad G g), .int (zI (k : Int))] J (fun r J' => r = zdiv (digZ (J g 2) (J (g + 1) k) 0) 6 ∧ J' = J) := by
  refine gx_mi hG (by decide) (Nat.le_of_ble_eq_true rfl) (fun X hla B Rt => ?_)
  subst hla
  have B : gx_B G X RX3 cX3_placeOf 2 rmX3_placeOf 76 := B
  show gx_WG G X 2 (zh J) 0 [(0, .ref (gx_ad G g)), (1, .int (zI (k : Int)))] []
  refine gx_aload_n B dX3_placeOf_0 rfl rfl ?_
  refine gx_iload_n B dX3_placeOf_1 rfl rfl ?_
  refine z_iconst B dX3_placeOf_2 ?_
  refine z_callVi [.int (zI (k : Int)), .int (zI 0)] B lv_X3_97 (mX3_buttonAt hG hg J (k := k) hk (i := 0)) (kGoods hg) (bGoods hg) rfl rfl (Nat.le_of_ble_eq_true rfl) (by decide) (by decide) dX3_placeOf_3 (fun r2 J1 hJ1 => ?_)
  rw [hJ1.1, hJ1.2]
  refine z_bipush B dX3_placeOf_6 (by decide) ?_
  refine z_idiv B dX3_placeOf_8 (by decide) ?_
  refine z_ireti B Rt dX3_placeOf_9 ?_
  exact ⟨rfl, rfl⟩
end
section

/-- the fold of all settings, as the class goes through them -/
def gls (base rows low : Int) : List Int := lowsOf (lowB base rows 0 low) (lowB base rows 1 low)
def gS1 (w base rows low : Int) : GSt := offS (rnk w 0 0) (-1) (-1) (gls base rows low) (2147483647, [])
def gS2 (w base rows low : Int) : GSt := sglS w base (gls base rows low) (gS1 w base rows low) (cbl rows)
def gF (w base rows low : Int) : GSt := prS w base (gls base rows low) (gS2 w base rows low) (cbl rows)
abbrev hasL (base rows low : Int) : Prop := ¬ lowB base rows 0 low = -1 ∨ ¬ lowB base rows 1 low = -1
def gsize (w base rows low : Int) : Int := (gF w base rows low).1 % 16 + bz (hasL base rows low)
def glack (w base rows low : Int) : Int := (gF w base rows low).1 / 256 + bz (0 ≤ low ∧ ¬ hasL base rows low)
def gextra (w base rows low : Int) : Int := (gF w base rows low).1 / 16 % 16
/-- the good settings of a beat, held by a Goods -/
def GoodsAt (J : zJ) (g : Nat) (w base rows low : Int) : Prop := GS J g (gF w base rows low).2 ∧ J g 2 = gsize w base rows low ∧ J g 3 = glack w base rows low ∧ J g 4 = gextra w base rows low
theorem zand15 {x : Int} (h0 : 0 ≤ x) (h1 : x < 2147483648) : zand x 15 = x % 16 := by
  obtain ⟨n, rfl⟩ := Int.eq_ofNat_of_zero_le h0
  show (zI (n : Int) &&& zI 15).toInt = _
  have hz : (zI 15).toBitVec.toNat = 2 ^ 4 - 1 := by decide
  rw [zI_nat, pk_andN (by omega) 4 hz, nI_toInt (by omega)]
  omega
theorem zand127 {x : Int} (h0 : 0 ≤ x) (h1 : x < 2147483648) : zand x 127 = x % 128 := by
  obtain ⟨n, rfl⟩ := Int.eq_ofNat_of_zero_le h0
  show (zI (n : Int) &&& zI 127).toInt = _
  have hz : (zI 127).toBitVec.toNat = 2 ^ 7 - 1 := by decide
  rw [zI_nat, pk_andN (by omega) 7 hz, nI_toInt (by omega)]
  omega
theorem zshr4 {x : Int} (h0 : 0 ≤ x) (h1 : x < 2147483648) : zshr x 4 = x / 16 := by
  obtain ⟨n, rfl⟩ := Int.eq_ofNat_of_zero_le h0
  have := zshr_nat (a := n) (k := 4) (by omega) (by omega)
  rw [show zshr (n : Int) 4 = zshr (n : Int) ((4 : Nat) : Int) from rfl, this]
  omega
theorem zshr8 {x : Int} (h0 : 0 ≤ x) (h1 : x < 2147483648) : zshr x 8 = x / 256 := by
  obtain ⟨n, rfl⟩ := Int.eq_ofNat_of_zero_le h0
  have := zshr_nat (a := n) (k := 8) (by omega) (by omega)
  rw [show zshr (n : Int) 8 = zshr (n : Int) ((8 : Nat) : Int) from rfl, this]
  omega
/-- more buttons don't better what fits wholly: pairs have a rank of at least 2 -/
theorem inS_skip {w base : Int} {ls : List Int} {a : Nat} {s : GSt} (h : s.1 ≤ 1) : ∀ bs : List Nat, inS w base ls a s bs = s
  | [] => rfl
  | b :: bs => by
    have h1 := ones_le (zless w (zor (snd base a) (snd base b)))
    have h2 := ones_le (zless (zor (snd base a) (snd base b)) w)
    have e : offS (rnk w (zor (snd base a) (snd base b)) 2) a b ls s = s := offS_gt (by unfold rnk; omega)
    show bs.foldl _ (offS _ _ _ ls s) = s
    rw [e]
    exact inS_skip h bs
theorem prS_skip {w base : Int} {ls : List Int} {s : GSt} (h : s.1 ≤ 1) : ∀ bs : List Nat, prS w base ls s bs = s
  | [] => rfl
  | a :: bs => by
    show prS w base ls (inS w base ls a s bs) bs = s
    rw [inS_skip h]
    exact prS_skip h bs
/-- a best rank that is a setting's, of at most m buttons -/
def rkd (m r : Int) : Prop := 0 ≤ r ∧ r ≤ 3300 ∧ r % 16 ≤ m
theorem rkd_rnk {m w n b : Int} (h0 : 0 ≤ b) (h1 : b ≤ 2) (h2 : b ≤ m) : rkd m (rnk w n b) := by
  have h2 := ones_le (zless w n)
  have h3 := ones_le (zless n w)
  unfold rkd rnk
  omega
theorem off_rkd {m r f z : Int} {ls : List Int} {s : GSt} (hr : rkd m r) (hn : ls ≠ []) (hs : rkd m s.1 ∨ 3300 < s.1) : rkd m (offS r f z ls s).1 := by
  rcases Int.lt_trichotomy r s.1 with h1 | h1 | h1
  · rw [offS_lt hn h1]; exact hr
  · rw [offS_same h1]; exact hr
  · rw [offS_gt h1]
    rcases hs with h | h
    · exact h
    · have := hr.2.1; omega
theorem sgl_rkd {w base : Int} {ls : List Int} (hn : ls ≠ []) : ∀ (bs : List Nat) {s : GSt}, rkd 1 s.1 → rkd 1 (sglS w base ls s bs).1
  | [], _, h => h
  | a :: bs, s, h => sgl_rkd hn bs (off_rkd (rkd_rnk (by omega) (by omega) (by omega)) hn (Or.inl h))
theorem in_rkd {w base : Int} {ls : List Int} (hn : ls ≠ []) {a : Nat} : ∀ (bs : List Nat) {s : GSt}, rkd 2 s.1 → rkd 2 (inS w base ls a s bs).1
  | [], _, h => h
  | b :: bs, s, h => in_rkd hn bs (off_rkd (rkd_rnk (by omega) (by omega) (by omega)) hn (Or.inl h))
theorem pr_rkd {w base : Int} {ls : List Int} (hn : ls ≠ []) : ∀ (bs : List Nat) {s : GSt}, rkd 2 s.1 → rkd 2 (prS w base ls s bs).1
  | [], _, h => h
  | a :: bs, s, h => pr_rkd hn bs (in_rkd hn bs h)
theorem prS_ok {w base : Int} {ls : List Int} (hl : ∀ l ∈ ls, bt1 l) (hn : ls ≠ []) : ∀ (bs : List Nat) {s : GSt}, (∀ b ∈ bs, b < 72) → okS s → okS (prS w base ls s bs)
  | [], _, _, h => h
  | a :: bs, s, hb, h => prS_ok hl hn bs (fun x hx => hb x (List.mem_cons_of_mem _ hx)) (inS_ok hl hn (hb a List.mem_cons_self) bs (fun x hx => hb x (List.mem_cons_of_mem _ hx)) h)
theorem gls_bt (base rows low : Int) : ∀ l ∈ gls base rows low, bt1 l := lowsOf_bt (lowB_bt (by omega)) (lowB_bt (by omega))
theorem gls_ne (base rows low : Int) : gls base rows low ≠ [] := lowsOf_ne _ _
theorem ok_init : okS (2147483647, []) := ⟨okL_nil, by decide, by decide⟩
theorem gS1_ok (w base rows low : Int) : okS (gS1 w base rows low) := okS_off ok_init (rnk_le (by omega) (by omega)) (by decide) (by decide) (gls_bt base rows low) (gls_ne base rows low)
theorem gS2_ok (w base rows low : Int) : okS (gS2 w base rows low) := sglS_ok (gls_bt base rows low) (gls_ne base rows low) _ (fun a ha => (cblN_mem ha).1) (gS1_ok w base rows low)
theorem gF_ok (w base rows low : Int) : okS (gF w base rows low) := prS_ok (gls_bt base rows low) (gls_ne base rows low) _ (fun a ha => (cblN_mem ha).1) (gS2_ok w base rows low)
theorem gS2_rkd (w base rows low : Int) : rkd 1 (gS2 w base rows low).1 := sgl_rkd (gls_ne base rows low) _ (off_rkd (rkd_rnk (by omega) (by omega) (by omega)) (gls_ne base rows low) (Or.inr (by decide)))
theorem gF_rkd (w base rows low : Int) : rkd 2 (gF w base rows low).1 := pr_rkd (gls_ne base rows low) _ (by have h := gS2_rkd w base rows low; exact ⟨h.1, h.2.1, by have := h.2.2; omega⟩)

theorem mX3_find {l : Launch} {G : gx_G} (hG : gx_OK G 76) {g d : Nat} (hg : isGoods g) (hd : isBoard d) (J : zJ) {base rows chord low : Int} (hb0 : 0 ≤ base) (hb1 : base < 12) (hc0 : 0 ≤ chord) (hc1 : chord ≤ 4095) (hl0 : -1 ≤ low) (hl1 : low ≤ 11) (hT : Tuned J d base rows) : zMv l G yX3_find cX3_find 4 rmX3_find [.ref (gx_ad G g), .ref (gx_ad G d), .int (zI chord), .int (zI low)] J (fun J' => GoodsAt J' g chord base rows low ∧ ∀ a k, a ≠ g → a ≠ g + 1 → J' a k = J a k) := by
  refine gx_mv hG (by decide) (Nat.le_of_ble_eq_true rfl) (fun X hla B Rt => ?_)
  subst hla
  have B : gx_B G X RX3 cX3_find 4 rmX3_find 76 := B
  show gx_WG G X 4 (zh J) 0 [(0, .ref (gx_ad G g)), (1, .ref (gx_ad G d)), (2, .int (zI chord)), (3, .int (zI low))] []
  obtain ⟨n1, n2, n3, n4, n5, n6⟩ := gb_ne hg hd
  have hend : ∀ JF : zJ, GSB JF g (gF chord base rows low) → (∀ a k, a ≠ g → a ≠ g + 1 → JF a k = J a k) → JF g 6 = lowB base rows 0 low → JF g 7 = lowB base rows 1 low → gx_WG G X 4 (zh JF) 63 [(0, .ref (gx_ad G g)), (1, .ref (gx_ad G d)), (2, .int (zI chord)), (3, .int (zI low))] [] := by
    intro JF hgF hfrF e6_JF e7_JF
    have okF := gF_rkd chord base rows low
    have h8 : JF g 8 = (gF chord base rows low).1 := hgF.2
    have hr0 := okF.1
    have hr1 := okF.2.1
    refine gx_aload_n B dX3_find_63 rfl rfl ?_
    refine gx_aload_n B dX3_find_64 rfl rfl ?_
    refine z_geti B fl_X3_37 (kGoods hg) (bGoods hg) (zGoods8 hg) dX3_find_65 ?_
    refine z_bipush B dX3_find_68 (by decide) ?_
    refine z_ishr B dX3_find_70 ?_
    refine gx_iload_n B dX3_find_71 rfl rfl ?_
    refine z_if_lt (tgt := 86) B dX3_find_72 ⟨by omega, by omega⟩ (by decide) (fun c72 => ?_) (fun c72 => ?_)
    · have hy : ¬ (0 ≤ low ∧ ¬ hasL base rows low) := by omega
      refine z_iconst B dX3_find_86 ?_
      refine z_iadd B dX3_find_87 ?_
      refine z_puti B fw_X3_22 (kGoods hg) (bGoods hg) (zGoods3 hg) dX3_find_88 (fun JL hJL => ?_)
      have eL : JL g 8 = (gF chord base rows low).1 := by rw [hJL, zup_ne (by omega)]; exact h8
      refine gx_aload_n B dX3_find_91 rfl rfl ?_
      refine gx_aload_n B dX3_find_92 rfl rfl ?_
      refine z_geti B fl_X3_37 (kGoods hg) (bGoods hg) (zGoods8 hg) dX3_find_93 ?_
      refine z_iconst B dX3_find_96 ?_
      refine z_ishr B dX3_find_97 ?_
      refine z_bipush B dX3_find_98 (by decide) ?_
      refine z_iand B dX3_find_100 ?_
      refine z_puti B fw_X3_25 (kGoods hg) (bGoods hg) (zGoods4 hg) dX3_find_101 (fun JE hJE => ?_)
      have eE : JE g 8 = (gF chord base rows low).1 := by rw [hJE, zup_ne (by omega)]; exact eL
      have e6_JE : JE g 6 = lowB base rows 0 low := by rw [hJE, zup_ne (by omega), hJL, zup_ne (by omega)]; exact e6_JF
      have e7_JE : JE g 7 = lowB base rows 1 low := by rw [hJE, zup_ne (by omega), hJL, zup_ne (by omega)]; exact e7_JF
      refine gx_aload_n B dX3_find_104 rfl rfl ?_
      refine gx_aload_n B dX3_find_105 rfl rfl ?_
      refine z_geti B fl_X3_37 (kGoods hg) (bGoods hg) (zGoods8 hg) dX3_find_106 ?_
      refine z_bipush B dX3_find_109 (by decide) ?_
      refine z_iand B dX3_find_111 ?_
      refine gx_aload_n B dX3_find_112 rfl rfl ?_
      refine z_callVi [] B lv_X3_60 (mX3_hasLowButton hG JE hg (by rw [e6_JE]; have := lowB_bt (base := base) (rows := rows) (low := low) (row := 0) (by omega); exact ⟨by omega, by omega⟩) (by rw [e7_JE]; have := lowB_bt (base := base) (rows := rows) (low := low) (row := 1) (by omega); exact ⟨by omega, by omega⟩)) (kGoods hg) (bGoods hg) rfl rfl (Nat.le_of_ble_eq_true rfl) (by decide) (by decide) dX3_find_113 (fun r1 Jh2 hJh2 => ?_)
      rw [hJh2.1, hJh2.2]
      refine z_if_eq (tgt := 123) B dX3_find_116 (bzB _) (by decide) (fun c116 => ?_) (fun c116 => ?_)
      · have hz : ¬ hasL base rows low := by rw [bz_0, e6_JE, e7_JE] at c116; exact c116
        refine z_iconst B dX3_find_123 ?_
        refine z_iadd B dX3_find_124 ?_
        refine z_puti B fw_X3_19 (kGoods hg) (bGoods hg) (zGoods2 hg) dX3_find_125 (fun JS hJS => ?_)
        refine z_ret B Rt dX3_find_128 ?_
        obtain ⟨c1, c2, c3⟩ := okF
        refine ⟨⟨⟨?_, fun k hk => ?_⟩, ?_, ?_, ?_⟩, fun a k h1 h2 => ?_⟩
        · rw [hJS, zup_ne (by omega), hJE, zup_ne (by omega), hJL, zup_ne (by omega)]; exact hgF.1.1
        · rw [hJS, zup_ne (by omega), hJE, zup_ne (by omega), hJL, zup_ne (by omega)]; exact hgF.1.2 k hk
        · rw [hJS, zup_self, eE, zand15 (by omega) (by omega)]
          unfold gsize
          congr 1
          first | rw [bz_1.mpr hz] | rw [bz_0.mpr hz]
        · rw [hJS, zup_ne (by omega), hJE, zup_ne (by omega), hJL, zup_self, zshr8 (by omega) (by omega), h8]
          unfold glack
          congr 1
          first | rw [bz_1.mpr hy] | rw [bz_0.mpr hy]
        · rw [hJS, zup_ne (by omega), hJE, zup_self, eL, zshr4 (by omega) (by omega), zand15 (by omega) (by omega)]
          rfl
        · rw [hJS, zup_ne (by omega), hJE, zup_ne (by omega), hJL, zup_ne (by omega), hfrF a k (by omega) (by omega)]
      · have hz : hasL base rows low := by rw [bz_n0, e6_JE, e7_JE] at c116; exact c116
        refine z_iconst B dX3_find_119 ?_
        refine gx_goto (tgt := 124) B dX3_find_120 (by decide) ?_
        refine z_iadd B dX3_find_124 ?_
        refine z_puti B fw_X3_19 (kGoods hg) (bGoods hg) (zGoods2 hg) dX3_find_125 (fun JS hJS => ?_)
        refine z_ret B Rt dX3_find_128 ?_
        obtain ⟨c1, c2, c3⟩ := okF
        refine ⟨⟨⟨?_, fun k hk => ?_⟩, ?_, ?_, ?_⟩, fun a k h1 h2 => ?_⟩
        · rw [hJS, zup_ne (by omega), hJE, zup_ne (by omega), hJL, zup_ne (by omega)]; exact hgF.1.1
        · rw [hJS, zup_ne (by omega), hJE, zup_ne (by omega), hJL, zup_ne (by omega)]; exact hgF.1.2 k hk
        · rw [hJS, zup_self, eE, zand15 (by omega) (by omega)]
          unfold gsize
          congr 1
          first | rw [bz_1.mpr hz] | rw [bz_0.mpr hz]
        · rw [hJS, zup_ne (by omega), hJE, zup_ne (by omega), hJL, zup_self, zshr8 (by omega) (by omega), h8]
          unfold glack
          congr 1
          first | rw [bz_1.mpr hy] | rw [bz_0.mpr hy]
        · rw [hJS, zup_ne (by omega), hJE, zup_self, eL, zshr4 (by omega) (by omega), zand15 (by omega) (by omega)]
          rfl
        · rw [hJS, zup_ne (by omega), hJE, zup_ne (by omega), hJL, zup_ne (by omega), hfrF a k (by omega) (by omega)]
    · refine gx_aload_n B dX3_find_75 rfl rfl ?_
      refine z_callVi [] B lv_X3_60 (mX3_hasLowButton hG JF hg (by rw [e6_JF]; have := lowB_bt (base := base) (rows := rows) (low := low) (row := 0) (by omega); exact ⟨by omega, by omega⟩) (by rw [e7_JF]; have := lowB_bt (base := base) (rows := rows) (low := low) (row := 1) (by omega); exact ⟨by omega, by omega⟩)) (kGoods hg) (bGoods hg) rfl rfl (Nat.le_of_ble_eq_true rfl) (by decide) (by decide) dX3_find_76 (fun r2 Jh1 hJh1 => ?_)
      rw [hJh1.1, hJh1.2]
      refine z_if_ne (tgt := 86) B dX3_find_79 (bzB _) (by decide) (fun c79 => ?_) (fun c79 => ?_)
      · rw [bz_n0, e6_JF, e7_JF] at c79
        have hy : ¬ (0 ≤ low ∧ ¬ hasL base rows low) := fun q => q.2 c79
        refine z_iconst B dX3_find_86 ?_
        refine z_iadd B dX3_find_87 ?_
        refine z_puti B fw_X3_22 (kGoods hg) (bGoods hg) (zGoods3 hg) dX3_find_88 (fun JL hJL => ?_)
        have eL : JL g 8 = (gF chord base rows low).1 := by rw [hJL, zup_ne (by omega)]; exact h8
        refine gx_aload_n B dX3_find_91 rfl rfl ?_
        refine gx_aload_n B dX3_find_92 rfl rfl ?_
        refine z_geti B fl_X3_37 (kGoods hg) (bGoods hg) (zGoods8 hg) dX3_find_93 ?_
        refine z_iconst B dX3_find_96 ?_
        refine z_ishr B dX3_find_97 ?_
        refine z_bipush B dX3_find_98 (by decide) ?_
        refine z_iand B dX3_find_100 ?_
        refine z_puti B fw_X3_25 (kGoods hg) (bGoods hg) (zGoods4 hg) dX3_find_101 (fun JE hJE => ?_)
        have eE : JE g 8 = (gF chord base rows low).1 := by rw [hJE, zup_ne (by omega)]; exact eL
        have e6_JE : JE g 6 = lowB base rows 0 low := by rw [hJE, zup_ne (by omega), hJL, zup_ne (by omega)]; exact e6_JF
        have e7_JE : JE g 7 = lowB base rows 1 low := by rw [hJE, zup_ne (by omega), hJL, zup_ne (by omega)]; exact e7_JF
        refine gx_aload_n B dX3_find_104 rfl rfl ?_
        refine gx_aload_n B dX3_find_105 rfl rfl ?_
        refine z_geti B fl_X3_37 (kGoods hg) (bGoods hg) (zGoods8 hg) dX3_find_106 ?_
        refine z_bipush B dX3_find_109 (by decide) ?_
        refine z_iand B dX3_find_111 ?_
        refine gx_aload_n B dX3_find_112 rfl rfl ?_
        refine z_callVi [] B lv_X3_60 (mX3_hasLowButton hG JE hg (by rw [e6_JE]; have := lowB_bt (base := base) (rows := rows) (low := low) (row := 0) (by omega); exact ⟨by omega, by omega⟩) (by rw [e7_JE]; have := lowB_bt (base := base) (rows := rows) (low := low) (row := 1) (by omega); exact ⟨by omega, by omega⟩)) (kGoods hg) (bGoods hg) rfl rfl (Nat.le_of_ble_eq_true rfl) (by decide) (by decide) dX3_find_113 (fun r3 Jh2 hJh2 => ?_)
        rw [hJh2.1, hJh2.2]
        refine z_if_eq (tgt := 123) B dX3_find_116 (bzB _) (by decide) (fun c116 => ?_) (fun c116 => ?_)
        · have hz : ¬ hasL base rows low := by rw [bz_0, e6_JE, e7_JE] at c116; exact c116
          refine z_iconst B dX3_find_123 ?_
          refine z_iadd B dX3_find_124 ?_
          refine z_puti B fw_X3_19 (kGoods hg) (bGoods hg) (zGoods2 hg) dX3_find_125 (fun JS hJS => ?_)
          refine z_ret B Rt dX3_find_128 ?_
          obtain ⟨c1, c2, c3⟩ := okF
          refine ⟨⟨⟨?_, fun k hk => ?_⟩, ?_, ?_, ?_⟩, fun a k h1 h2 => ?_⟩
          · rw [hJS, zup_ne (by omega), hJE, zup_ne (by omega), hJL, zup_ne (by omega)]; exact hgF.1.1
          · rw [hJS, zup_ne (by omega), hJE, zup_ne (by omega), hJL, zup_ne (by omega)]; exact hgF.1.2 k hk
          · rw [hJS, zup_self, eE, zand15 (by omega) (by omega)]
            unfold gsize
            congr 1
            first | rw [bz_1.mpr hz] | rw [bz_0.mpr hz]
          · rw [hJS, zup_ne (by omega), hJE, zup_ne (by omega), hJL, zup_self, zshr8 (by omega) (by omega), h8]
            unfold glack
            congr 1
            first | rw [bz_1.mpr hy] | rw [bz_0.mpr hy]
          · rw [hJS, zup_ne (by omega), hJE, zup_self, eL, zshr4 (by omega) (by omega), zand15 (by omega) (by omega)]
            rfl
          · rw [hJS, zup_ne (by omega), hJE, zup_ne (by omega), hJL, zup_ne (by omega), hfrF a k (by omega) (by omega)]
        · have hz : hasL base rows low := by rw [bz_n0, e6_JE, e7_JE] at c116; exact c116
          refine z_iconst B dX3_find_119 ?_
          refine gx_goto (tgt := 124) B dX3_find_120 (by decide) ?_
          refine z_iadd B dX3_find_124 ?_
          refine z_puti B fw_X3_19 (kGoods hg) (bGoods hg) (zGoods2 hg) dX3_find_125 (fun JS hJS => ?_)
          refine z_ret B Rt dX3_find_128 ?_
          obtain ⟨c1, c2, c3⟩ := okF
          refine ⟨⟨⟨?_, fun k hk => ?_⟩, ?_, ?_, ?_⟩, fun a k h1 h2 => ?_⟩
          · rw [hJS, zup_ne (by omega), hJE, zup_ne (by omega), hJL, zup_ne (by omega)]; exact hgF.1.1
          · rw [hJS, zup_ne (by omega), hJE, zup_ne (by omega), hJL, zup_ne (by omega)]; exact hgF.1.2 k hk
          · rw [hJS, zup_self, eE, zand15 (by omega) (by omega)]
            unfold gsize
            congr 1
            first | rw [bz_1.mpr hz] | rw [bz_0.mpr hz]
          · rw [hJS, zup_ne (by omega), hJE, zup_ne (by omega), hJL, zup_self, zshr8 (by omega) (by omega), h8]
            unfold glack
            congr 1
            first | rw [bz_1.mpr hy] | rw [bz_0.mpr hy]
          · rw [hJS, zup_ne (by omega), hJE, zup_self, eL, zshr4 (by omega) (by omega), zand15 (by omega) (by omega)]
            rfl
          · rw [hJS, zup_ne (by omega), hJE, zup_ne (by omega), hJL, zup_ne (by omega), hfrF a k (by omega) (by omega)]
      · rw [bz_0, e6_JF, e7_JF] at c79
        have hy : 0 ≤ low ∧ ¬ hasL base rows low := ⟨by omega, c79⟩
        refine z_iconst B dX3_find_82 ?_
        refine gx_goto (tgt := 87) B dX3_find_83 (by decide) ?_
        refine z_iadd B dX3_find_87 ?_
        refine z_puti B fw_X3_22 (kGoods hg) (bGoods hg) (zGoods3 hg) dX3_find_88 (fun JL hJL => ?_)
        have eL : JL g 8 = (gF chord base rows low).1 := by rw [hJL, zup_ne (by omega)]; exact h8
        refine gx_aload_n B dX3_find_91 rfl rfl ?_
        refine gx_aload_n B dX3_find_92 rfl rfl ?_
        refine z_geti B fl_X3_37 (kGoods hg) (bGoods hg) (zGoods8 hg) dX3_find_93 ?_
        refine z_iconst B dX3_find_96 ?_
        refine z_ishr B dX3_find_97 ?_
        refine z_bipush B dX3_find_98 (by decide) ?_
        refine z_iand B dX3_find_100 ?_
        refine z_puti B fw_X3_25 (kGoods hg) (bGoods hg) (zGoods4 hg) dX3_find_101 (fun JE hJE => ?_)
        have eE : JE g 8 = (gF chord base rows low).1 := by rw [hJE, zup_ne (by omega)]; exact eL
        have e6_JE : JE g 6 = lowB base rows 0 low := by rw [hJE, zup_ne (by omega), hJL, zup_ne (by omega)]; exact e6_JF
        have e7_JE : JE g 7 = lowB base rows 1 low := by rw [hJE, zup_ne (by omega), hJL, zup_ne (by omega)]; exact e7_JF
        refine gx_aload_n B dX3_find_104 rfl rfl ?_
        refine gx_aload_n B dX3_find_105 rfl rfl ?_
        refine z_geti B fl_X3_37 (kGoods hg) (bGoods hg) (zGoods8 hg) dX3_find_106 ?_
        refine z_bipush B dX3_find_109 (by decide) ?_
        refine z_iand B dX3_find_111 ?_
        refine gx_aload_n B dX3_find_112 rfl rfl ?_
        refine z_callVi [] B lv_X3_60 (mX3_hasLowButton hG JE hg (by rw [e6_JE]; have := lowB_bt (base := base) (rows := rows) (low := low) (row := 0) (by omega); exact ⟨by omega, by omega⟩) (by rw [e7_JE]; have := lowB_bt (base := base) (rows := rows) (low := low) (row := 1) (by omega); exact ⟨by omega, by omega⟩)) (kGoods hg) (bGoods hg) rfl rfl (Nat.le_of_ble_eq_true rfl) (by decide) (by decide) dX3_find_113 (fun r4 Jh2 hJh2 => ?_)
        rw [hJh2.1, hJh2.2]
        refine z_if_eq (tgt := 123) B dX3_find_116 (bzB _) (by decide) (fun c116 => ?_) (fun c116 => ?_)
        · have hz : ¬ hasL base rows low := by rw [bz_0, e6_JE, e7_JE] at c116; exact c116
          refine z_iconst B dX3_find_123 ?_
          refine z_iadd B dX3_find_124 ?_
          refine z_puti B fw_X3_19 (kGoods hg) (bGoods hg) (zGoods2 hg) dX3_find_125 (fun JS hJS => ?_)
          refine z_ret B Rt dX3_find_128 ?_
          obtain ⟨c1, c2, c3⟩ := okF
          refine ⟨⟨⟨?_, fun k hk => ?_⟩, ?_, ?_, ?_⟩, fun a k h1 h2 => ?_⟩
          · rw [hJS, zup_ne (by omega), hJE, zup_ne (by omega), hJL, zup_ne (by omega)]; exact hgF.1.1
          · rw [hJS, zup_ne (by omega), hJE, zup_ne (by omega), hJL, zup_ne (by omega)]; exact hgF.1.2 k hk
          · rw [hJS, zup_self, eE, zand15 (by omega) (by omega)]
            unfold gsize
            congr 1
            first | rw [bz_1.mpr hz] | rw [bz_0.mpr hz]
          · rw [hJS, zup_ne (by omega), hJE, zup_ne (by omega), hJL, zup_self, zshr8 (by omega) (by omega), h8]
            unfold glack
            congr 1
            first | rw [bz_1.mpr hy] | rw [bz_0.mpr hy]
          · rw [hJS, zup_ne (by omega), hJE, zup_self, eL, zshr4 (by omega) (by omega), zand15 (by omega) (by omega)]
            rfl
          · rw [hJS, zup_ne (by omega), hJE, zup_ne (by omega), hJL, zup_ne (by omega), hfrF a k (by omega) (by omega)]
        · have hz : hasL base rows low := by rw [bz_n0, e6_JE, e7_JE] at c116; exact c116
          refine z_iconst B dX3_find_119 ?_
          refine gx_goto (tgt := 124) B dX3_find_120 (by decide) ?_
          refine z_iadd B dX3_find_124 ?_
          refine z_puti B fw_X3_19 (kGoods hg) (bGoods hg) (zGoods2 hg) dX3_find_125 (fun JS hJS => ?_)
          refine z_ret B Rt dX3_find_128 ?_
          obtain ⟨c1, c2, c3⟩ := okF
          refine ⟨⟨⟨?_, fun k hk => ?_⟩, ?_, ?_, ?_⟩, fun a k h1 h2 => ?_⟩
          · rw [hJS, zup_ne (by omega), hJE, zup_ne (by omega), hJL, zup_ne (by omega)]; exact hgF.1.1
          · rw [hJS, zup_ne (by omega), hJE, zup_ne (by omega), hJL, zup_ne (by omega)]; exact hgF.1.2 k hk
          · rw [hJS, zup_self, eE, zand15 (by omega) (by omega)]
            unfold gsize
            congr 1
            first | rw [bz_1.mpr hz] | rw [bz_0.mpr hz]
          · rw [hJS, zup_ne (by omega), hJE, zup_ne (by omega), hJL, zup_self, zshr8 (by omega) (by omega), h8]
            unfold glack
            congr 1
            first | rw [bz_1.mpr hy] | rw [bz_0.mpr hy]
          · rw [hJS, zup_ne (by omega), hJE, zup_self, eL, zshr4 (by omega) (by omega), zand15 (by omega) (by omega)]
            rfl
          · rw [hJS, zup_ne (by omega), hJE, zup_ne (by omega), hJL, zup_ne (by omega), hfrF a k (by omega) (by omega)]
  refine gx_aload_n B dX3_find_0 rfl rfl ?_
  refine gx_iload_n B dX3_find_1 rfl rfl ?_
  refine z_puti B fw_X3_28 (kGoods hg) (bGoods hg) (zGoods5 hg) dX3_find_2 (fun J1 hJ1 => ?_)
  have ht_J1 : ∀ a : Nat, a < 72 → J1 (d + 1) a = ntc base rows a := fun a ha => by rw [hJ1, zup_ne (by omega)]; exact hT.1 a ha
  refine gx_aload_n B dX3_find_5 rfl rfl ?_
  refine gx_aload_n B dX3_find_6 rfl rfl ?_
  refine z_iconst B dX3_find_7 ?_
  refine gx_iload_n B dX3_find_8 rfl rfl ?_
  refine z_callVi [.int (zI 0), .int (zI low)] B lv_X3_40 (mX1_lowButton hG hd (row := 0) (by omega) J1 (base := base) (rows := rows) hb0 hb1 hl0 hl1 (ht_J1)) (kBoard hd) (bBoard hd) rfl rfl (Nat.le_of_ble_eq_true rfl) (by decide) (by decide) dX3_find_9 (fun r1 Ja hJa => ?_)
  rw [hJa.1, hJa.2]
  refine z_puti B fw_X3_31 (kGoods hg) (bGoods hg) (zGoods6 hg) dX3_find_12 (fun J2 hJ2 => ?_)
  have ht_J2 : ∀ a : Nat, a < 72 → J2 (d + 1) a = ntc base rows a := fun a ha => by rw [hJ2, zup_ne (by omega)]; exact ht_J1 a ha
  refine gx_aload_n B dX3_find_15 rfl rfl ?_
  refine gx_aload_n B dX3_find_16 rfl rfl ?_
  refine z_iconst B dX3_find_17 ?_
  refine gx_iload_n B dX3_find_18 rfl rfl ?_
  refine z_callVi [.int (zI 1), .int (zI low)] B lv_X3_40 (mX1_lowButton hG hd (row := 1) (by omega) J2 (base := base) (rows := rows) hb0 hb1 hl0 hl1 (ht_J2)) (kBoard hd) (bBoard hd) rfl rfl (Nat.le_of_ble_eq_true rfl) (by decide) (by decide) dX3_find_19 (fun r2 Jb hJb => ?_)
  rw [hJb.1, hJb.2]
  refine z_puti B fw_X3_34 (kGoods hg) (bGoods hg) (zGoods7 hg) dX3_find_22 (fun J3 hJ3 => ?_)
  refine gx_aload_n B dX3_find_25 rfl rfl ?_
  refine z_iconst B dX3_find_26 ?_
  refine z_puti B fw_X3_15 (kGoods hg) (bGoods hg) (zGoods1 hg) dX3_find_27 (fun J4 hJ4 => ?_)
  refine gx_aload_n B dX3_find_30 rfl rfl ?_
  refine z_ldc 2147483647 B dX3_find_31 lk_X3_48 (by decide) ?_
  refine z_puti B fw_X3_37 (kGoods hg) (bGoods hg) (zGoods8 hg) dX3_find_33 (fun J5 hJ5 => ?_)
  have hfr5 : ∀ a k, a ≠ g → J5 a k = J a k := fun a k h1 => by rw [hJ5, zup_ne (by omega), hJ4, zup_ne (by omega), hJ3, zup_ne (by omega), hJ2, zup_ne (by omega), hJ1, zup_ne (by omega)]
  have h55 : J5 g 5 = chord := by rw [hJ5, zup_ne (by omega), hJ4, zup_ne (by omega), hJ3, zup_ne (by omega), hJ2, zup_ne (by omega), hJ1, zup_self]
  have h56 : J5 g 6 = lowB base rows 0 low := by rw [hJ5, zup_ne (by omega), hJ4, zup_ne (by omega), hJ3, zup_ne (by omega), hJ2, zup_self]
  have h57 : J5 g 7 = lowB base rows 1 low := by rw [hJ5, zup_ne (by omega), hJ4, zup_ne (by omega), hJ3, zup_self]
  have hgs : GSB J5 g (2147483647, []) := ⟨⟨by rw [hJ5, zup_ne (by omega), hJ4, zup_self]; rfl, fun k hk => by simp at hk⟩, by rw [hJ5, zup_self]⟩
  have hO : Offer J5 g d base rows := ⟨⟨fun a ha => by rw [hfr5 _ _ n2]; exact hT.1 a ha, by rw [hfr5 _ _ n1]; exact hT.2.1, fun i hi => by rw [hfr5 _ _ n3]; exact hT.2.2 i hi⟩, hb0, hb1, by rw [h55]; exact hc0, by rw [h55]; exact hc1, by rw [h56]; exact lowB_bt (by omega), by rw [h57]; exact lowB_bt (by omega)⟩
  refine gx_aload_n B dX3_find_36 rfl rfl ?_
  refine z_iconst B dX3_find_37 ?_
  refine z_iconst B dX3_find_38 ?_
  refine z_iconst B dX3_find_39 ?_
  refine z_iconst B dX3_find_40 ?_
  refine z_callVv [.int (zI (-1)), .int (zI (-1)), .int (zI 0), .int (zI 0)] B lv_X3_49 (mX3_offer hG hg J5 (f := -1) (z := -1) (b := 0) (nt := 0) (by decide) (by decide) (by decide) (by decide) (by decide) (by decide) hO.2.2.2.1 hO.2.2.2.2.1 hO.2.2.2.2.2.1 hO.2.2.2.2.2.2 (2147483647, []) hgs ok_init) (kGoods hg) (bGoods hg) rfl rfl (Nat.le_of_ble_eq_true rfl) (by decide) (by decide) dX3_find_41 (fun JO hJO => ?_)
  obtain ⟨hO1, f5, f6, f7⟩ := hO.keep hg hd hJO.2
  have hgs1 : GSB JO g (gS1 chord base rows low) := by have h9 := hJO.1; rw [h55, h56, h57] at h9; exact h9
  refine gx_aload_n B dX3_find_44 rfl rfl ?_
  refine gx_aload_n B dX3_find_45 rfl rfl ?_
  refine z_callVv [.ref (gx_ad G d)] B lv_X3_53 (mX3_offerSingles hG hg hd JO hO1 (gS1 chord base rows low) hgs1 (gS1_ok _ _ _ _)) (kGoods hg) (bGoods hg) rfl rfl (Nat.le_of_ble_eq_true rfl) (by decide) (by decide) dX3_find_46 (fun JP hJP => ?_)
  obtain ⟨hO2, k5, k6, k7⟩ := hO1.keep hg hd hJP.2
  have hP1 : GSB JP g (gS2 chord base rows low) := by have h9 := hJP.1; rw [f5, f6, f7, h55, h56, h57] at h9; exact h9
  have hP6 : JP g 6 = lowB base rows 0 low := by rw [k6, f6, h56]
  have hP7 : JP g 7 = lowB base rows 1 low := by rw [k7, f7, h57]
  have hP2 : ∀ a k, a ≠ g → a ≠ g + 1 → JP a k = J a k := fun a k h1 h2 => by rw [hJP.2 a k h2 (by omega), hJO.2 a k h2 (by omega), hfr5 a k h1]
  have hr2 := gS2_rkd chord base rows low
  obtain ⟨hr20, hr21, hr22⟩ := hr2
  have h8P : zshr (JP g 8) 4 = (gS2 chord base rows low).1 / 16 := by rw [hP1.2]; exact zshr4 (by omega) (by omega)
  refine gx_aload_n B dX3_find_49 rfl rfl ?_
  refine z_geti B fl_X3_37 (kGoods hg) (bGoods hg) (zGoods8 hg) dX3_find_50 ?_
  refine z_iconst B dX3_find_53 ?_
  refine z_ishr B dX3_find_54 ?_
  refine z_if_eq (tgt := 63) B dX3_find_55 (zshrB _ _) (by decide) (fun c55 => ?_) (fun c55 => ?_)
  · refine hend JP ?_ hP2 hP6 hP7
    unfold gF
    rw [prS_skip (by rw [h8P] at c55; omega)]
    exact hP1
  · refine gx_aload_n B dX3_find_58 rfl rfl ?_
    refine gx_aload_n B dX3_find_59 rfl rfl ?_
    refine z_callVv [.ref (gx_ad G d)] B lv_X3_57 (mX3_offerPairs hG hg hd JP hO2 (gS2 chord base rows low) hP1 (gS2_ok _ _ _ _)) (kGoods hg) (bGoods hg) rfl rfl (Nat.le_of_ble_eq_true rfl) (by decide) (by decide) dX3_find_60 (fun JQ hJQ => ?_)
    obtain ⟨hO3, m5, m6, m7⟩ := hO2.keep hg hd hJQ.2
    refine hend JQ ?_ (fun a k h1 h2 => by rw [hJQ.2 a k h2 (by omega), hP2 a k h1 h2]) (by rw [m6, hP6]) (by rw [m7, hP7])
    have h9 := hJQ.1
    rw [k5, k6, k7, f5, f6, f7, h55, h56, h57] at h9
    exact h9
end
section

def absZ (x : Int) : Int := if 0 ≤ x then x else 0 - x
def minN (f : Nat → Int) (i : Int) : Nat → Int
  | 0 => i
  | n + 1 => min (minN f i n) (f n)
def isMinZ (n : Nat) (f : Nat → Int) (v : Int) : Prop := (∃ k, k < n ∧ f k = v) ∧ ∀ k, k < n → v ≤ f k
theorem minN_le {f : Nat → Int} {i : Int} : ∀ {n k : Nat}, k < n → minN f i n ≤ f k
  | n + 1, k, h => by
    unfold minN
    by_cases e : k = n
    · rw [e]; omega
    · have := minN_le (f := f) (i := i) (n := n) (k := k) (by omega); omega
theorem minN_le_i {f : Nat → Int} {i : Int} : ∀ n : Nat, minN f i n ≤ i
  | 0 => Int.le_refl _
  | n + 1 => by have := minN_le_i (f := f) (i := i) n; unfold minN; omega
theorem minN_ge {f : Nat → Int} {i b : Int} (hi : b ≤ i) : ∀ {n : Nat}, (∀ k, k < n → b ≤ f k) → b ≤ minN f i n
  | 0, _ => hi
  | n + 1, h => by have := minN_ge hi (n := n) (fun k hk => h k (by omega)); have := h n (by omega); unfold minN; omega
theorem minN_at {f : Nat → Int} {i : Int} : ∀ {n : Nat}, 0 < n → (∀ k, k < n → f k ≤ i) → ∃ k, k < n ∧ f k = minN f i n
  | n + 1, _, h => by
    by_cases e : n = 0
    · subst e
      exact ⟨0, by omega, by have := h 0 (by omega); simp only [minN]; omega⟩
    · obtain ⟨k, hk, he⟩ := minN_at (f := f) (i := i) (n := n) (by omega) (fun k hk => h k (by omega))
      by_cases e2 : f n ≤ minN f i n
      · exact ⟨n, by omega, by simp only [minN]; omega⟩
      · exact ⟨k, by omega, by rw [he]; simp only [minN]; omega⟩
theorem minN_is {f : Nat → Int} {i : Int} {n : Nat} (h0 : 0 < n) (h : ∀ k, k < n → f k ≤ i) : isMinZ n f (minN f i n) := ⟨minN_at h0 h, fun _ hk => minN_le hk⟩
/-- the first of the least -/
def isFst (n : Nat) (f : Nat → Int) (c : Nat) : Prop := c < n ∧ (∀ k, k < n → f c ≤ f k) ∧ ∀ k, k < c → f c < f k
theorem isFst_uni {n : Nat} {f g : Nat → Int} {c d : Nat} (hfg : ∀ k, k < n → f k = g k) (h1 : isFst n f c) (h2 : isFst n g d) : c = d := by
  rcases Nat.lt_trichotomy c d with h | h | h
  · have a := h1.2.1 d h2.1
    have b := h2.2.2 c h
    rw [hfg c h1.1, hfg d h2.1] at a; omega
  · exact h
  · have a := h2.2.1 c h1.1
    have b := h1.2.2 d h
    rw [hfg c h1.1, hfg d h2.1] at b; omega
theorem isMin_uni {n : Nat} {f g : Nat → Int} {u v : Int} (hfg : ∀ k, k < n → f k = g k) (h1 : isMinZ n f u) (h2 : isMinZ n g v) : u = v := by
  obtain ⟨⟨k, hk, ek⟩, a⟩ := h1
  obtain ⟨⟨j, hj, ej⟩, b⟩ := h2
  have := a j hj
  have := b k hk
  rw [hfg j hj] at *
  rw [hfg k hk] at *
  omega
def hsz (J : zJ) (a b : Nat) : Int := J (a + 15 + 2 * b) 2
def hct (J : zJ) (a b : Nat) : Nat := (J (a + 15 + 2 * b) 1).toNat
def hpl (J : zJ) (a b k : Nat) : Int := zdiv (digZ (J (a + 15 + 2 * b) 2) (J (a + 15 + 2 * b + 1) k) 0) 6
def htc (J : zJ) (a b k : Nat) : Int := J (a + 7 + b) k
theorem dig_le (n c i : Int) : 0 ≤ digZ n c i ∧ digZ n c i ≤ 127 := by
  unfold digZ
  have hc : zand (zshr c (7 * (n - 1 - i))) 127 = zand ((127 : Nat) : Int) (zshr c (7 * (n - 1 - i))) := by
    show (zI _ &&& zI 127).toInt = (zI ((127 : Nat) : Int) &&& zI _).toInt
    rw [Int32.and_comm]; rfl
  obtain ⟨m, hm, e⟩ := zand_nat (a := 127) (by omega) (zshr c (7 * (n - 1 - i)))
  rw [hc, e]
  omega
theorem hpl_le (J : zJ) (a b k : Nat) : 0 ≤ hpl J a b k ∧ hpl J a b k ≤ 21 := by
  have := dig_le (J (a + 15 + 2 * b) 2) (J (a + 15 + 2 * b + 1) k) 0
  unfold hpl
  rw [zdiv_nn (by omega) (by omega) (by omega) (by omega)]
  omega
theorem absZ_le {x b : Int} (h1 : -b ≤ x) (h2 : x ≤ b) : 0 ≤ absZ x ∧ absZ x ≤ b := by unfold absZ; split <;> omega
/-- what a hand's methods need of its goods: n beats, counts of 1 to 20 -/
def HPre (J : zJ) (a n : Nat) : Prop := n ≤ 8 ∧ ∀ b, b < n → 1 ≤ J (a + 15 + 2 * b) 1 ∧ J (a + 15 + 2 * b) 1 ≤ 20 ∧ 0 ≤ J (a + 15 + 2 * b) 2 ∧ J (a + 15 + 2 * b) 2 ≤ 3
theorem HPre.ct {J : zJ} {a n b : Nat} (h : HPre J a n) (hb : b < n) : J (a + 15 + 2 * b) 1 = (hct J a b : Int) ∧ 1 ≤ hct J a b ∧ hct J a b ≤ 20 := by
  have := h.2 b hb
  unfold hct
  omega

theorem lpFew {G : gx_G} {X : gx_X} (hG : gx_OK G 76) (B : gx_B G X RX4 cX4_fewestOnward 6 rmX4_fewestOnward 76) {a m n : Nat} (ha : isHand a) {J : zJ} (hP : HPre J a n) (hm : m < n) {p : Int} (hp0 : 0 ≤ p) (hp1 : p ≤ 21) (ht : ∀ j, j < hct J a m → 0 ≤ htc J a m j ∧ htc J a m j ≤ 1000) (Rt : gx_Ri G X .int (zpi (fun r J' => r = minN (fun j => absZ (p - hpl J a m j) + htc J a m j) 2147483647 (hct J a m) ∧ J' = J))) : ∀ k : Nat, k ≤ hct J a m → gx_WG G X 6 (zh J) 6 [(0, .ref (gx_ad G a)), (1, .int (zI p)), (2, .int (zI (m : Int))), (3, .int (zI (minN (fun j => absZ (p - hpl J a m j) + htc J a m j) 2147483647 k))), (4, .int (zI (k : Int)))] [] := by
  refine up_ind (fun k hi ih => ?_)
  have h8 := hP.1
  have hc := hP.ct hm
  have hmn := minN_le_i (f := (fun j => absZ (p - hpl J a m j) + htc J a m j)) (i := 2147483647) k
  have hgn : 0 ≤ minN (fun j => absZ (p - hpl J a m j) + htc J a m j) 2147483647 k := minN_ge (by omega) (fun j hj => by have h1 := absZ_le (x := p - hpl J a m j) (b := 21) (by have := hpl_le J a m j; omega) (by have := hpl_le J a m j; omega); have h2 := ht j (by omega); omega)
  refine gx_iload B dX4_fewestOnward_6 rfl ?_
  refine gx_aload_n B dX4_fewestOnward_8 rfl rfl ?_
  refine gx_getr (t := (a + 4)) B fl_X4_20 (kHand ha) (bHand ha) (rHand1 ha) dX4_fewestOnward_9 ?_
  refine gx_iload_n B dX4_fewestOnward_12 rfl rfl ?_
  refine z_aald m (a + 15 + 2 * m) B (kHg ha) (cHg ha) rfl (show m < 8 by omega) (by decide) (rHg ha (show m < 8 by omega)) dX4_fewestOnward_13 ?_
  refine z_geti B fl_X4_72 (kGoods (gdH ha (show m < 8 by omega))) (bGoods (gdH ha (show m < 8 by omega))) (zGoods1 (gdH ha (show m < 8 by omega))) dX4_fewestOnward_14 ?_
  refine z_icmp_ge (tgt := 61) B dX4_fewestOnward_17 ⟨by omega, by omega⟩ ⟨by omega, by omega⟩ (by decide) (fun c17 => ?_) (fun c17 => ?_)
  · refine gx_iload_n B dX4_fewestOnward_61 rfl rfl ?_
    refine z_ireti B Rt dX4_fewestOnward_62 ?_
    refine ⟨?_, rfl⟩
    rw [show k = hct J a m by omega]
  · refine gx_iload_n B dX4_fewestOnward_20 rfl rfl ?_
    refine gx_aload_n B dX4_fewestOnward_21 rfl rfl ?_
    refine gx_getr (t := (a + 4)) B fl_X4_20 (kHand ha) (bHand ha) (rHand1 ha) dX4_fewestOnward_22 ?_
    refine gx_iload_n B dX4_fewestOnward_25 rfl rfl ?_
    refine z_aald m (a + 15 + 2 * m) B (kHg ha) (cHg ha) rfl (show m < 8 by omega) (by decide) (rHg ha (show m < 8 by omega)) dX4_fewestOnward_26 ?_
    refine gx_iload B dX4_fewestOnward_27 rfl ?_
    have hpk := hpl_le J a m k
    have htk : 0 ≤ htc J a m k ∧ htc J a m k ≤ 1000 := ht k (by omega)
    refine z_callVi [.int (zI (k : Int))] B lv_X4_75 (mX3_placeOf hG (gdH ha (by omega)) J (k := k) (by omega)) (kGoods (gdH ha (show m < 8 by omega))) (bGoods (gdH ha (show m < 8 by omega))) rfl rfl (Nat.le_of_ble_eq_true rfl) (by decide) (by decide) dX4_fewestOnward_29 (fun r2 J1 hJ1 => ?_)
    rw [show r2 = hpl J a m k from hJ1.1, hJ1.2]
    refine z_isub B dX4_fewestOnward_32 ?_
    refine z_mabs B lm_X4_85 (by decide) (Nat.le_of_ble_eq_true rfl) ⟨by omega, by omega⟩ dX4_fewestOnward_33 ?_
    refine z_istore (fun v => [(0, .ref (gx_ad G a)), (1, .int (zI p)), (2, .int (zI (m : Int))), (3, .int (zI (minN (fun j => absZ (p - hpl J a m j) + htc J a m j) 2147483647 k))), (4, .int (zI (k : Int))), (5, .int (zI v))]) B dX4_fewestOnward_36 (by decide) rfl (fun _ => rfl) (fun v5 hv5 => ?_)
    obtain rfl : v5 = absZ (p - hpl J a m k) := by rw [hv5]; rfl
    refine gx_iload_n B dX4_fewestOnward_38 rfl rfl ?_
    refine gx_iload B dX4_fewestOnward_39 rfl ?_
    refine gx_aload_n B dX4_fewestOnward_41 rfl rfl ?_
    refine gx_getr (t := (a + 6)) B fl_X4_34 (kHand ha) (bHand ha) (rHand4 ha) dX4_fewestOnward_42 ?_
    refine gx_iload_n B dX4_fewestOnward_45 rfl rfl ?_
    refine z_aald2 m (a + 7 + m) B (kHj ha) (cHj ha) rfl (show m < 8 by omega) (by decide) (rHj ha (show m < 8 by omega)) dX4_fewestOnward_46 ?_
    refine gx_iload B dX4_fewestOnward_47 rfl ?_
    refine z_iald k B (kHjr ha (show m < 8 by omega)) (cHjr ha (show m < 8 by omega)) rfl (show k < 20 by omega) (by decide) dX4_fewestOnward_49 ?_
    rw [show J (a + 7 + m) k = htc J a m k from rfl]
    refine z_iadd B dX4_fewestOnward_50 ?_
    have hab := absZ_le (x := p - hpl J a m k) (b := 21) (by omega) (by omega)
    refine z_mmin B lm_X4_90 (by decide) (Nat.le_of_ble_eq_true rfl) ⟨by omega, by omega⟩ ⟨by omega, by omega⟩ dX4_fewestOnward_51 ?_
    refine z_istore_n (fun v => [(0, .ref (gx_ad G a)), (1, .int (zI p)), (2, .int (zI (m : Int))), (3, .int (zI v)), (4, .int (zI (k : Int))), (5, .int (zI (absZ (p - hpl J a m k))))]) B dX4_fewestOnward_54 rfl (by decide) rfl (fun _ => rfl) (fun v3 hv3 => ?_)
    obtain rfl : v3 = minN (fun j => absZ (p - hpl J a m j) + htc J a m j) 2147483647 (k + 1) := by rw [hv3]; rfl
    refine z_iinc (fun v => [(0, .ref (gx_ad G a)), (1, .int (zI p)), (2, .int (zI (m : Int))), (3, .int (zI (minN (fun j => absZ (p - hpl J a m j) + htc J a m j) 2147483647 (k + 1)))), (4, .int (zI v)), (5, .int (zI (absZ (p - hpl J a m k))))]) B dX4_fewestOnward_55 rfl (by decide) rfl (fun _ => rfl) (fun v4 hv4 => ?_)
    obtain rfl : v4 = ((k + 1 : Nat) : Int) := by omega
    refine gx_goto (tgt := 6) B dX4_fewestOnward_58 (by decide) ?_
    refine gx_sub [0, 1, 2, 3, 4] rfl ?_
    exact ih (by omega)

theorem mX4_fewestOnward {l : Launch} {G : gx_G} (hG : gx_OK G 76) {a m n : Nat} (ha : isHand a) (J : zJ) (hP : HPre J a n) (hm : m < n) {p : Int} (hp0 : 0 ≤ p) (hp1 : p ≤ 21) (ht : ∀ j, j < hct J a m → 0 ≤ htc J a m j ∧ htc J a m j ≤ 1000) : zMi l G yX4_fewestOnward cX4_fewestOnward 6 .int rmX4_fewestOnward [.ref (gx_ad G a), .int (zI p), .int (zI (m : Int))] J (fun r J' => r = minN (fun j => absZ (p - hpl J a m j) + htc J a m j) 2147483647 (hct J a m) ∧ J' = J) := by
  refine gx_mi hG (by decide) (Nat.le_of_ble_eq_true rfl) (fun X hla B Rt => ?_)
  subst hla
  have B : gx_B G X RX4 cX4_fewestOnward 6 rmX4_fewestOnward 76 := B
  show gx_WG G X 6 (zh J) 0 [(0, .ref (gx_ad G a)), (1, .int (zI p)), (2, .int (zI (m : Int)))] []
  refine z_ldc 2147483647 B dX4_fewestOnward_0 lk_X4_84 (by decide) ?_
  refine z_istore_n (fun v => [(0, .ref (gx_ad G a)), (1, .int (zI p)), (2, .int (zI (m : Int))), (3, .int (zI v))]) B dX4_fewestOnward_2 rfl (by decide) rfl (fun _ => rfl) (fun v3 hv3 => ?_)
  obtain rfl : v3 = minN (fun j => absZ (p - hpl J a m j) + htc J a m j) 2147483647 0 := by rw [hv3]; rfl
  refine z_iconst B dX4_fewestOnward_3 ?_
  refine z_istore (fun v => [(0, .ref (gx_ad G a)), (1, .int (zI p)), (2, .int (zI (m : Int))), (3, .int (zI (minN (fun j => absZ (p - hpl J a m j) + htc J a m j) 2147483647 0))), (4, .int (zI v))]) B dX4_fewestOnward_4 (by decide) rfl (fun _ => rfl) (fun v4 hv4 => ?_)
  obtain rfl : v4 = ((0 : Nat) : Int) := by omega
  exact lpFew hG B ha hP hm hp0 hp1 ht Rt 0 (by omega)


/-- the jump from the beat ahead (-1: none) *)-/
def jfc (J : zJ) (a : Nat) (c : Nat → Nat) (pv : Int) (b k : Nat) : Int := if pv = -1 then 0 else absZ (hpl J a pv.toNat (c pv.toNat) - hpl J a b k)
theorem jfc_le (J : zJ) (a : Nat) (c : Nat → Nat) (pv : Int) (b k : Nat) : 0 ≤ jfc J a c pv b k ∧ jfc J a c pv b k ≤ 21 := by
  unfold jfc
  split
  · omega
  · have h1 := hpl_le J a pv.toNat (c pv.toNat)
    have h2 := hpl_le J a b k
    exact absZ_le (by omega) (by omega)
def hch (J : zJ) (a b : Nat) : Nat := (J (a + 5) b).toNat

theorem mX4_jumpFromChosen {l : Launch} {G : gx_G} (hG : gx_OK G 76) {a b n k : Nat} (ha : isHand a) (J : zJ) (hn : n ≤ 8) (hb : b < n) (hk : k < 20) {pv : Int} (hv : pv = -1 ∨ (0 ≤ pv ∧ pv < n ∧ 0 ≤ J (a + 5) pv.toNat ∧ J (a + 5) pv.toNat < 20)) : zMi l G yX4_jumpFromChosen cX4_jumpFromChosen 4 .int rmX4_jumpFromChosen [.ref (gx_ad G a), .int (zI pv), .int (zI (b : Int)), .int (zI (k : Int))] J (fun r J' => r = jfc J a (hch J a) pv b k ∧ J' = J) := by
  refine gx_mi hG (by decide) (Nat.le_of_ble_eq_true rfl) (fun X hla B Rt => ?_)
  subst hla
  have B : gx_B G X RX4 cX4_jumpFromChosen 4 rmX4_jumpFromChosen 76 := B
  show gx_WG G X 4 (zh J) 0 [(0, .ref (gx_ad G a)), (1, .int (zI pv)), (2, .int (zI (b : Int))), (3, .int (zI (k : Int)))] []
  refine gx_iload_n B dX4_jumpFromChosen_0 rfl rfl ?_
  refine z_iconst B dX4_jumpFromChosen_1 ?_
  refine z_icmp_ne (tgt := 7) B dX4_jumpFromChosen_2 ⟨by omega, by omega⟩ ⟨by omega, by omega⟩ (by decide) (fun c2 => ?_) (fun c2 => ?_)
  · refine gx_aload_n B dX4_jumpFromChosen_7 rfl rfl ?_
    refine gx_getr (t := (a + 4)) B fl_X4_20 (kHand ha) (bHand ha) (rHand1 ha) dX4_jumpFromChosen_8 ?_
    refine gx_iload_n B dX4_jumpFromChosen_11 rfl rfl ?_
    refine z_aald pv.toNat (a + 15 + 2 * pv.toNat) B (kHg ha) (cHg ha) (by omega) (show pv.toNat < 8 by omega) (by decide) (rHg ha (show pv.toNat < 8 by omega)) dX4_jumpFromChosen_12 ?_
    refine gx_aload_n B dX4_jumpFromChosen_13 rfl rfl ?_
    refine gx_getr (t := (a + 5)) B fl_X4_24 (kHand ha) (bHand ha) (rHand2 ha) dX4_jumpFromChosen_14 ?_
    refine gx_iload_n B dX4_jumpFromChosen_17 rfl rfl ?_
    refine z_iald pv.toNat B (kHc ha) (cHc ha) (by omega) (show pv.toNat < 8 by omega) (by decide) dX4_jumpFromChosen_18 ?_
    rw [show J (a + 5) pv.toNat = (hch J a pv.toNat : Int) from (by unfold hch; omega)]
    refine z_callVi [.int (zI (hch J a pv.toNat : Int))] B lv_X4_75 (mX3_placeOf hG (gdH ha (by omega)) J (k := (hch J a pv.toNat)) (by unfold hch; omega)) (kGoods (gdH ha (show pv.toNat < 8 by omega))) (bGoods (gdH ha (show pv.toNat < 8 by omega))) rfl rfl (Nat.le_of_ble_eq_true rfl) (by decide) (by decide) dX4_jumpFromChosen_19 (fun r2 J1 hJ1 => ?_)
    rw [show r2 = hpl J a pv.toNat (hch J a pv.toNat) from hJ1.1, hJ1.2]
    refine gx_aload_n B dX4_jumpFromChosen_22 rfl rfl ?_
    refine gx_getr (t := (a + 4)) B fl_X4_20 (kHand ha) (bHand ha) (rHand1 ha) dX4_jumpFromChosen_23 ?_
    refine gx_iload_n B dX4_jumpFromChosen_26 rfl rfl ?_
    refine z_aald b (a + 15 + 2 * b) B (kHg ha) (cHg ha) rfl (show b < 8 by omega) (by decide) (rHg ha (show b < 8 by omega)) dX4_jumpFromChosen_27 ?_
    refine gx_iload_n B dX4_jumpFromChosen_28 rfl rfl ?_
    refine z_callVi [.int (zI (k : Int))] B lv_X4_75 (mX3_placeOf hG (gdH ha (by omega)) J (k := k) hk) (kGoods (gdH ha (show b < 8 by omega))) (bGoods (gdH ha (show b < 8 by omega))) rfl rfl (Nat.le_of_ble_eq_true rfl) (by decide) (by decide) dX4_jumpFromChosen_29 (fun r4 J3 hJ3 => ?_)
    rw [show r4 = hpl J a b k from hJ3.1, hJ3.2]
    refine z_isub B dX4_jumpFromChosen_32 ?_
    have h1 := hpl_le J a pv.toNat (hch J a pv.toNat)
    have h2 := hpl_le J a b k
    refine z_mabs B lm_X4_85 (by decide) (Nat.le_of_ble_eq_true rfl) ⟨by omega, by omega⟩ dX4_jumpFromChosen_33 ?_
    refine z_ireti B Rt dX4_jumpFromChosen_36 ?_
    refine ⟨?_, rfl⟩
    unfold jfc
    rw [if_neg c2]
    rfl
  · refine z_iconst B dX4_jumpFromChosen_5 ?_
    refine z_ireti B Rt dX4_jumpFromChosen_6 ?_
    refine ⟨?_, rfl⟩
    unfold jfc
    rw [if_pos c2]


def fbN (f : Nat → Int) : Nat → Int × Nat
  | 0 => (2147483647, 0)
  | n + 1 => if f n < (fbN f n).1 then (f n, n) else fbN f n
theorem fbN_is {f : Nat → Int} : ∀ {n : Nat}, (∀ k, k < n → f k < 2147483647) → (n = 0 → fbN f n = (2147483647, 0)) ∧ (0 < n → isFst n f (fbN f n).2 ∧ (fbN f n).1 = f (fbN f n).2)
  | 0, _ => ⟨fun _ => rfl, fun h => by omega⟩
  | n + 1, h => by
    refine ⟨fun h => by omega, fun _ => ?_⟩
    have ih := fbN_is (f := f) (n := n) (fun k hk => h k (by omega))
    by_cases e0 : n = 0
    · subst e0
      have h0 := h 0 (by omega)
      have e : fbN f 1 = (f 0, 0) := by
        show (if f 0 < (fbN f 0).1 then (f 0, 0) else fbN f 0) = _
        rw [if_pos (show f 0 < (fbN f 0).1 from h0)]
      rw [e]
      exact ⟨⟨by omega, fun k hk => by rw [show k = 0 by omega]; exact Int.le_refl _, fun k hk => absurd hk (Nat.not_lt_zero k)⟩, rfl⟩
    · obtain ⟨⟨i1, i2, i3⟩, i4⟩ := ih.2 (by omega)
      by_cases e : f n < (fbN f n).1
      · have e2 : fbN f (n + 1) = (f n, n) := by
          show (if f n < (fbN f n).1 then (f n, n) else fbN f n) = _
          rw [if_pos e]
        rw [e2]
        rw [i4] at e
        refine ⟨⟨by omega, fun k hk => ?_, fun k hk => ?_⟩, rfl⟩
        · by_cases ek : k = n
          · rw [ek]; exact Int.le_refl _
          · have := i2 k (by omega); show f n ≤ f k; omega
        · have := i2 k (by omega); show f n < f k; omega
      · have e2 : fbN f (n + 1) = fbN f n := by
          show (if f n < (fbN f n).1 then (f n, n) else fbN f n) = _
          rw [if_neg e]
        rw [e2]
        rw [i4] at e
        refine ⟨⟨by omega, fun k hk => ?_, i3⟩, i4⟩
        by_cases ek : k = n
        · rw [ek]; omega
        · exact i2 k (by omega)
theorem fbN_lt {f : Nat → Int} : ∀ n : Nat, 0 < n → (fbN f n).2 < n
  | n + 1, _ => by
    show (if f n < (fbN f n).1 then (f n, n) else fbN f n).2 < n + 1
    split
    · exact Nat.lt_succ_self n
    · by_cases e : n = 0
      · subst e; exact Nat.lt_succ_self 0
      · have := fbN_lt (f := f) n (by omega); omega
theorem fbN_le {f : Nat → Int} : ∀ n : Nat, (∀ k, k < n → 0 ≤ f k) → 0 ≤ (fbN f n).1 ∧ (fbN f n).1 ≤ 2147483647
  | 0, _ => by simp [fbN]
  | n + 1, h => by
    have ih := fbN_le (f := f) n (fun k hk => h k (by omega))
    show 0 ≤ (if f n < (fbN f n).1 then (f n, n) else fbN f n).1 ∧ (if f n < (fbN f n).1 then (f n, n) else fbN f n).1 ≤ _
    split
    · have := h n (by omega); exact ⟨this, by show f n ≤ _; omega⟩
    · exact ih

theorem lpFb {G : gx_G} {X : gx_X} (hG : gx_OK G 76) (B : gx_B G X RX4 cX4_firstBest 7 rmX4_firstBest 76) {a b n : Nat} (ha : isHand a) {J : zJ} (hP : HPre J a n) (hb : b < n) {pv : Int} (hv : pv = -1 ∨ (0 ≤ pv ∧ pv < n ∧ 0 ≤ J (a + 5) pv.toNat ∧ J (a + 5) pv.toNat < 20)) (ht : ∀ j, j < hct J a b → 0 ≤ htc J a b j ∧ htc J a b j ≤ 1000) (Rt : gx_Ri G X .int (zpi (fun r J' => r = ((fbN (fun k => jfc J a (hch J a) pv b k + htc J a b k) (hct J a b)).2 : Int) ∧ J' = J))) : ∀ k : Nat, k ≤ hct J a b → gx_WG G X 7 (zh J) 9 [(0, .ref (gx_ad G a)), (1, .int (zI pv)), (2, .int (zI (b : Int))), (3, .int (zI ((fbN (fun k => jfc J a (hch J a) pv b k + htc J a b k) k).2 : Int))), (4, .int (zI ((fbN (fun k => jfc J a (hch J a) pv b k + htc J a b k) k).1))), (5, .int (zI (k : Int)))] [] := by
  refine up_ind (fun k hi ih => ?_)
  have h8 := hP.1
  have hc := hP.ct hb
  have hf := fbN_le (f := (fun k => jfc J a (hch J a) pv b k + htc J a b k)) k (fun j hj => by have h1 := jfc_le J a (hch J a) pv b j; have h2 := ht j (by omega); show 0 ≤ jfc J a (hch J a) pv b j + htc J a b j; omega)
  refine gx_iload B dX4_firstBest_9 rfl ?_
  refine gx_aload_n B dX4_firstBest_11 rfl rfl ?_
  refine gx_getr (t := (a + 4)) B fl_X4_20 (kHand ha) (bHand ha) (rHand1 ha) dX4_firstBest_12 ?_
  refine gx_iload_n B dX4_firstBest_15 rfl rfl ?_
  refine z_aald b (a + 15 + 2 * b) B (kHg ha) (cHg ha) rfl (show b < 8 by omega) (by decide) (rHg ha (show b < 8 by omega)) dX4_firstBest_16 ?_
  refine z_geti B fl_X4_72 (kGoods (gdH ha (show b < 8 by omega))) (bGoods (gdH ha (show b < 8 by omega))) (zGoods1 (gdH ha (show b < 8 by omega))) dX4_firstBest_17 ?_
  refine z_icmp_ge (tgt := 63) B dX4_firstBest_20 ⟨by omega, by omega⟩ ⟨by omega, by omega⟩ (by decide) (fun c20 => ?_) (fun c20 => ?_)
  · refine gx_iload_n B dX4_firstBest_63 rfl rfl ?_
    refine z_ireti B Rt dX4_firstBest_64 ?_
    refine ⟨?_, rfl⟩
    rw [show k = hct J a b by omega]
  · refine gx_aload_n B dX4_firstBest_23 rfl rfl ?_
    refine gx_iload_n B dX4_firstBest_24 rfl rfl ?_
    refine gx_iload_n B dX4_firstBest_25 rfl rfl ?_
    refine gx_iload B dX4_firstBest_26 rfl ?_
    have hj0 := jfc_le J a (hch J a) pv b k
    have htk : 0 ≤ htc J a b k ∧ htc J a b k ≤ 1000 := ht k (by omega)
    refine z_callVi [.int (zI pv), .int (zI (b : Int)), .int (zI (k : Int))] B lv_X4_68 (mX4_jumpFromChosen hG ha J (b := b) (n := n) (k := k) hP.1 hb (by omega) (pv := pv) hv) (kHand ha) (bHand ha) rfl rfl (Nat.le_of_ble_eq_true rfl) (by decide) (by decide) dX4_firstBest_28 (fun r2 J1 hJ1 => ?_)
    rw [show r2 = jfc J a (hch J a) pv b k from hJ1.1, hJ1.2]
    refine gx_aload_n B dX4_firstBest_31 rfl rfl ?_
    refine gx_getr (t := (a + 6)) B fl_X4_34 (kHand ha) (bHand ha) (rHand4 ha) dX4_firstBest_32 ?_
    refine gx_iload_n B dX4_firstBest_35 rfl rfl ?_
    refine z_aald2 b (a + 7 + b) B (kHj ha) (cHj ha) rfl (show b < 8 by omega) (by decide) (rHj ha (show b < 8 by omega)) dX4_firstBest_36 ?_
    refine gx_iload B dX4_firstBest_37 rfl ?_
    refine z_iald k B (kHjr ha (show b < 8 by omega)) (cHjr ha (show b < 8 by omega)) rfl (show k < 20 by omega) (by decide) dX4_firstBest_39 ?_
    rw [show J (a + 7 + b) k = htc J a b k from rfl]
    refine z_iadd B dX4_firstBest_40 ?_
    refine z_istore (fun v => [(0, .ref (gx_ad G a)), (1, .int (zI pv)), (2, .int (zI (b : Int))), (3, .int (zI ((fbN (fun k => jfc J a (hch J a) pv b k + htc J a b k) k).2 : Int))), (4, .int (zI ((fbN (fun k => jfc J a (hch J a) pv b k + htc J a b k) k).1))), (5, .int (zI (k : Int))), (6, .int (zI v))]) B dX4_firstBest_41 (by decide) rfl (fun _ => rfl) (fun v6 hv6 => ?_)
    obtain rfl : v6 = jfc J a (hch J a) pv b k + htc J a b k := by rw [hv6]
    refine gx_iload B dX4_firstBest_43 rfl ?_
    refine gx_iload B dX4_firstBest_45 rfl ?_
    refine z_icmp_ge (tgt := 57) B dX4_firstBest_47 ⟨by omega, by omega⟩ ⟨by omega, by omega⟩ (by decide) (fun c47 => ?_) (fun c47 => ?_)
    · have e2 : fbN (fun k => jfc J a (hch J a) pv b k + htc J a b k) (k + 1) = fbN (fun k => jfc J a (hch J a) pv b k + htc J a b k) k := by
        show (if jfc J a (hch J a) pv b k + htc J a b k < (fbN (fun k => jfc J a (hch J a) pv b k + htc J a b k) k).1 then _ else _) = _
        rw [if_neg (by omega)]
      refine z_iinc (fun v => [(0, .ref (gx_ad G a)), (1, .int (zI pv)), (2, .int (zI (b : Int))), (3, .int (zI ((fbN (fun k => jfc J a (hch J a) pv b k + htc J a b k) k).2 : Int))), (4, .int (zI ((fbN (fun k => jfc J a (hch J a) pv b k + htc J a b k) k).1))), (5, .int (zI v)), (6, .int (zI (jfc J a (hch J a) pv b k + htc J a b k)))]) B dX4_firstBest_57 rfl (by decide) rfl (fun _ => rfl) (fun v5 hv5 => ?_)
      obtain rfl : v5 = ((k + 1 : Nat) : Int) := by omega
      refine gx_goto (tgt := 9) B dX4_firstBest_60 (by decide) ?_
      refine gx_sub [0, 1, 2, 3, 4, 5] rfl ?_
      have h9 := ih (by omega)
      rw [e2] at h9
      exact h9
    · have e2 : fbN (fun k => jfc J a (hch J a) pv b k + htc J a b k) (k + 1) = (jfc J a (hch J a) pv b k + htc J a b k, k) := by
        show (if jfc J a (hch J a) pv b k + htc J a b k < (fbN (fun k => jfc J a (hch J a) pv b k + htc J a b k) k).1 then _ else _) = _
        rw [if_pos c47]
      refine gx_iload B dX4_firstBest_50 rfl ?_
      refine z_istore (fun v => [(0, .ref (gx_ad G a)), (1, .int (zI pv)), (2, .int (zI (b : Int))), (3, .int (zI ((fbN (fun k => jfc J a (hch J a) pv b k + htc J a b k) k).2 : Int))), (4, .int (zI v)), (5, .int (zI (k : Int))), (6, .int (zI (jfc J a (hch J a) pv b k + htc J a b k)))]) B dX4_firstBest_52 (by decide) rfl (fun _ => rfl) (fun v hv => ?_)
      subst hv
      refine gx_iload B dX4_firstBest_54 rfl ?_
      refine z_istore_n (fun v => [(0, .ref (gx_ad G a)), (1, .int (zI pv)), (2, .int (zI (b : Int))), (3, .int (zI v)), (4, .int (zI (jfc J a (hch J a) pv b k + htc J a b k))), (5, .int (zI (k : Int))), (6, .int (zI (jfc J a (hch J a) pv b k + htc J a b k)))]) B dX4_firstBest_56 rfl (by decide) rfl (fun _ => rfl) (fun v hv => ?_)
      subst hv
      refine z_iinc (fun v => [(0, .ref (gx_ad G a)), (1, .int (zI pv)), (2, .int (zI (b : Int))), (3, .int (zI (k : Int))), (4, .int (zI (jfc J a (hch J a) pv b k + htc J a b k))), (5, .int (zI v)), (6, .int (zI (jfc J a (hch J a) pv b k + htc J a b k)))]) B dX4_firstBest_57 rfl (by decide) rfl (fun _ => rfl) (fun v5 hv5 => ?_)
      obtain rfl : v5 = ((k + 1 : Nat) : Int) := by omega
      refine gx_goto (tgt := 9) B dX4_firstBest_60 (by decide) ?_
      refine gx_sub [0, 1, 2, 3, 4, 5] rfl ?_
      have h9 := ih (by omega)
      rw [e2] at h9
      exact h9

theorem mX4_firstBest {l : Launch} {G : gx_G} (hG : gx_OK G 76) {a b n : Nat} (ha : isHand a) (J : zJ) (hP : HPre J a n) (hb : b < n) {pv : Int} (hv : pv = -1 ∨ (0 ≤ pv ∧ pv < n ∧ 0 ≤ J (a + 5) pv.toNat ∧ J (a + 5) pv.toNat < 20)) (ht : ∀ j, j < hct J a b → 0 ≤ htc J a b j ∧ htc J a b j ≤ 1000) : zMi l G yX4_firstBest cX4_firstBest 7 .int rmX4_firstBest [.ref (gx_ad G a), .int (zI pv), .int (zI (b : Int))] J (fun r J' => r = ((fbN (fun k => jfc J a (hch J a) pv b k + htc J a b k) (hct J a b)).2 : Int) ∧ J' = J) := by
  refine gx_mi hG (by decide) (Nat.le_of_ble_eq_true rfl) (fun X hla B Rt => ?_)
  subst hla
  have B : gx_B G X RX4 cX4_firstBest 7 rmX4_firstBest 76 := B
  show gx_WG G X 7 (zh J) 0 [(0, .ref (gx_ad G a)), (1, .int (zI pv)), (2, .int (zI (b : Int)))] []
  refine z_iconst B dX4_firstBest_0 ?_
  refine z_istore_n (fun v => [(0, .ref (gx_ad G a)), (1, .int (zI pv)), (2, .int (zI (b : Int))), (3, .int (zI v))]) B dX4_firstBest_1 rfl (by decide) rfl (fun _ => rfl) (fun v3 hv3 => ?_)
  obtain rfl : v3 = ((fbN (fun k => jfc J a (hch J a) pv b k + htc J a b k) 0).2 : Int) := by rw [hv3]; rfl
  refine z_ldc 2147483647 B dX4_firstBest_2 lk_X4_84 (by decide) ?_
  refine z_istore (fun v => [(0, .ref (gx_ad G a)), (1, .int (zI pv)), (2, .int (zI (b : Int))), (3, .int (zI ((fbN (fun k => jfc J a (hch J a) pv b k + htc J a b k) 0).2 : Int))), (4, .int (zI v))]) B dX4_firstBest_4 (by decide) rfl (fun _ => rfl) (fun v4 hv4 => ?_)
  obtain rfl : v4 = (fbN (fun k => jfc J a (hch J a) pv b k + htc J a b k) 0).1 := by rw [hv4]; rfl
  refine z_iconst B dX4_firstBest_6 ?_
  refine z_istore (fun v => [(0, .ref (gx_ad G a)), (1, .int (zI pv)), (2, .int (zI (b : Int))), (3, .int (zI ((fbN (fun k => jfc J a (hch J a) pv b k + htc J a b k) 0).2 : Int))), (4, .int (zI ((fbN (fun k => jfc J a (hch J a) pv b k + htc J a b k) 0).1))), (5, .int (zI v))]) B dX4_firstBest_7 (by decide) rfl (fun _ => rfl) (fun v5 hv5 => ?_)
  obtain rfl : v5 = ((0 : Nat) : Int) := by omega
  exact lpFb hG B ha hP hb hv ht Rt 0 (by omega)
end
section

def isNx (s : Nat → Int) (n b m : Nat) : Prop := b ≤ m ∧ m ≤ n ∧ (∀ x, b ≤ x → x < m → ¬ 0 < s x) ∧ (m < n → 0 < s m)
theorem isNx_uni {s : Nat → Int} {n b m m' : Nat} (h : isNx s n b m) (h' : isNx s n b m') : m = m' := by
  obtain ⟨a1, a2, a3, a4⟩ := h
  obtain ⟨b1, b2, b3, b4⟩ := h'
  rcases Nat.lt_trichotomy m m' with h | h | h
  · exact absurd (a4 (by omega)) (b3 m a1 h)
  · exact h
  · exact absurd (b4 (by omega)) (a3 m' b1 h)
def HTb (s : Nat → Int) (ct : Nat → Nat) (pl t : Nat → Nat → Int) (n b : Nat) : Prop := 0 < s b → ∀ k, k < ct b → (0 ≤ t b k ∧ t b k ≤ 21 * ((n : Int) - b)) ∧ ∀ m, isNx s n (b + 1) m → (m = n → t b k = 0) ∧ (m < n → isMinZ (ct m) (fun j => absZ (pl b k - pl m j) + t m j) (t b k))
def jf (pl : Nat → Nat → Int) (c : Nat → Nat) (pv : Int) (b k : Nat) : Int := if pv = -1 then 0 else absZ (pl pv.toNat (c pv.toNat) - pl b k)
def pvF (s : Nat → Int) : Nat → Int
  | 0 => -1
  | b + 1 => if 0 < s b then (b : Int) else pvF s b
theorem pvF_lt {s : Nat → Int} : ∀ b : Nat, pvF s b = -1 ∨ (0 ≤ pvF s b ∧ pvF s b < b ∧ 0 < s (pvF s b).toNat)
  | 0 => Or.inl rfl
  | b + 1 => by
    unfold pvF
    split
    · exact Or.inr ⟨by omega, by omega, by simpa⟩
    · rcases pvF_lt (s := s) b with h | h
      · exact Or.inl h
      · exact Or.inr ⟨h.1, by omega, h.2.2⟩
def HCb (s : Nat → Int) (ct : Nat → Nat) (pl t : Nat → Nat → Int) (c : Nat → Nat) (b : Nat) : Prop := (¬ 0 < s b → c b = 0) ∧ (0 < s b → isFst (ct b) (fun k => jf pl c (pvF s b) b k + t b k) (c b))
def jsum (s : Nat → Int) (pl : Nat → Nat → Int) (c : Nat → Nat) : Nat → Int
  | 0 => 0
  | b + 1 => jsum s pl c b + (if 0 < s b then jf pl c (pvF s b) b (c b) else 0)
theorem jf_congr {s : Nat → Int} {pl : Nat → Nat → Int} {c c' : Nat → Nat} {b : Nat} (h : ∀ x, x < b → c x = c' x) (k : Nat) : jf pl c (pvF s b) b k = jf pl c' (pvF s b) b k := by
  unfold jf
  rcases pvF_lt (s := s) b with h1 | h1
  · rw [if_pos h1, if_pos h1]
  · rw [if_neg (by omega), if_neg (by omega), h _ (by omega)]
theorem HCb_congr {s : Nat → Int} {ct : Nat → Nat} {pl t : Nat → Nat → Int} {c c' : Nat → Nat} {b : Nat} (h : ∀ x, x ≤ b → c x = c' x) (hc : HCb s ct pl t c b) : HCb s ct pl t c' b := by
  refine ⟨fun h0 => by rw [← h b (Nat.le_refl _)]; exact hc.1 h0, fun h0 => ?_⟩
  have := hc.2 h0
  rw [← h b (Nat.le_refl _)]
  have e : (fun k => jf pl c' (pvF s b) b k + t b k) = (fun k => jf pl c (pvF s b) b k + t b k) := funext fun k => by rw [jf_congr (fun x hx => h x (by omega)) k]
  rw [e]; exact this
theorem jsum_congr {s : Nat → Int} {pl : Nat → Nat → Int} {c c' : Nat → Nat} : ∀ {n : Nat}, (∀ x, x < n → c x = c' x) → jsum s pl c n = jsum s pl c' n
  | 0, _ => rfl
  | n + 1, h => by
    unfold jsum
    rw [jsum_congr (fun x hx => h x (by omega)), jf_congr (fun x hx => h x (by omega)), h n (by omega)]
theorem jf_le (J : zJ) (a : Nat) (c : Nat → Nat) (pv : Int) (b k : Nat) : 0 ≤ jf (hpl J a) c pv b k ∧ jf (hpl J a) c pv b k ≤ 21 := jfc_le J a c pv b k
theorem jsum_le (J : zJ) (a : Nat) (s : Nat → Int) (c : Nat → Nat) : ∀ n : Nat, 0 ≤ jsum s (hpl J a) c n ∧ jsum s (hpl J a) c n ≤ 21 * n
  | 0 => by simp [jsum]
  | n + 1 => by
    have h := jsum_le J a s c n
    have h1 := jf_le J a c (pvF s n) n (c n)
    unfold jsum
    split <;> omega
abbrev LFr (J J' : zJ) (a : Nat) : Prop := ∀ x k, ¬ (a + 7 ≤ x ∧ x < a + 15) → J' x k = J x k
abbrev CFr (J J' : zJ) (a : Nat) : Prop := ∀ x k, ¬ (a + 7 ≤ x ∧ x < a + 15) → x ≠ a + 5 → ¬ (x = a ∧ k = 3) → J' x k = J x k
theorem cfr_eq {J J' : zJ} {a : Nat} (h : CFr J J' a) : hsz J' a = hsz J a ∧ hct J' a = hct J a ∧ hpl J' a = hpl J a := by
  refine ⟨funext fun b => ?_, funext fun b => ?_, funext fun b => funext fun k => ?_⟩
  · exact h _ _ (by omega) (by omega) (by omega)
  · unfold hct; rw [h _ _ (by omega) (by omega) (by omega)]
  · unfold hpl; rw [h _ _ (by omega) (by omega) (by omega), h _ _ (by omega) (by omega) (by omega)]
theorem LFr.c {J J' : zJ} {a : Nat} (h : LFr J J' a) : CFr J J' a := fun x k h1 _ _ => h x k h1
theorem HPre.keep {J J' : zJ} {a n : Nat} (h : HPre J a n) (fr : CFr J J' a) : HPre J' a n := ⟨h.1, fun b hb => by rw [fr _ 1 (by omega) (by omega) (by omega), fr _ 2 (by omega) (by omega) (by omega)]; exact h.2 b hb⟩
def laV (J : zJ) (a b : Nat) (nv : Int) (q : Nat) : Int := if nv = -1 then 0 else minN (fun j => absZ (hpl J a b q - hpl J a nv.toNat j) + htc J a nv.toNat j) 2147483647 (hct J a nv.toNat)

theorem lpLaI {G : gx_G} {X : gx_X} (hG : gx_OK G 76) (B : gx_B G X RX4 cX4_lookAhead 5 rmX4_lookAhead 76) {a b n : Nat} (ha : isHand a) {Jb : zJ} (hP : HPre Jb a n) (hb : b < n) {nv : Int} (hv : nv = -1 ∨ (0 ≤ nv ∧ nv < n ∧ nv ≠ b ∧ ∀ j, j < hct Jb a nv.toNat → 0 ≤ htc Jb a nv.toNat j ∧ htc Jb a nv.toNat j ≤ 1000)) (kk : ∀ J : zJ, (∀ x q, ¬ x = a + 7 + b → J x q = Jb x q) → (∀ q, q < hct Jb a b → J (a + 7 + b) q = laV Jb a b nv q) → gx_WG G X 5 (zh J) 79 [(0, .ref (gx_ad G a)), (1, .int (zI (n : Int))), (2, .int (zI nv)), (3, .int (zI (b : Int)))] []) : ∀ k : Nat, k ≤ hct Jb a b → ∀ (J : zJ), (∀ x q, ¬ x = a + 7 + b → J x q = Jb x q) → (∀ q, q < k → J (a + 7 + b) q = laV Jb a b nv q) → gx_WG G X 5 (zh J) 25 [(0, .ref (gx_ad G a)), (1, .int (zI (n : Int))), (2, .int (zI nv)), (3, .int (zI (b : Int))), (4, .int (zI (k : Int)))] [] := by
  refine up_ind (fun k hi ih => ?_)
  intro J hJ hq
  have h8 := hP.1
  have hc := hP.ct hb
  have hfr : LFr Jb J a := fun x q h => hJ x q (by omega)
  obtain ⟨e1, e2, e3⟩ := cfr_eq hfr.c
  have hcJ : J (a + 15 + 2 * b) 1 = (hct Jb a b : Int) := by rw [hfr _ _ (by omega)]; exact hc.1
  refine gx_iload B dX4_lookAhead_25 rfl ?_
  refine gx_aload_n B dX4_lookAhead_27 rfl rfl ?_
  refine gx_getr (t := (a + 4)) B fl_X4_20 (kHand ha) (bHand ha) (rHand1 ha) dX4_lookAhead_28 ?_
  refine gx_iload_n B dX4_lookAhead_31 rfl rfl ?_
  refine z_aald b (a + 15 + 2 * b) B (kHg ha) (cHg ha) rfl (show b < 8 by omega) (by decide) (rHg ha (show b < 8 by omega)) dX4_lookAhead_32 ?_
  refine z_geti B fl_X4_72 (kGoods (gdH ha (show b < 8 by omega))) (bGoods (gdH ha (show b < 8 by omega))) (zGoods1 (gdH ha (show b < 8 by omega))) dX4_lookAhead_33 ?_
  refine z_icmp_ge (tgt := 79) B dX4_lookAhead_36 ⟨by omega, by omega⟩ ⟨by omega, by omega⟩ (by decide) (fun c36 => ?_) (fun c36 => ?_)
  · refine gx_sub [0, 1, 2, 3] rfl ?_
    exact kk J hJ (fun q hq1 => hq q (by omega))
  · refine gx_aload_n B dX4_lookAhead_39 rfl rfl ?_
    refine gx_getr (t := (a + 6)) B fl_X4_34 (kHand ha) (bHand ha) (rHand4 ha) dX4_lookAhead_40 ?_
    refine gx_iload_n B dX4_lookAhead_43 rfl rfl ?_
    refine z_aald2 b (a + 7 + b) B (kHj ha) (cHj ha) rfl (show b < 8 by omega) (by decide) (rHj ha (show b < 8 by omega)) dX4_lookAhead_44 ?_
    refine gx_iload B dX4_lookAhead_45 rfl ?_
    refine gx_iload_n B dX4_lookAhead_47 rfl rfl ?_
    refine z_iconst B dX4_lookAhead_48 ?_
    refine z_icmp_ne (tgt := 56) B dX4_lookAhead_49 ⟨by omega, by omega⟩ ⟨by omega, by omega⟩ (by decide) (fun c49 => ?_) (fun c49 => ?_)
    · obtain ⟨m, rfl⟩ : ∃ m : Nat, nv = (m : Int) := ⟨nv.toNat, by omega⟩
      refine gx_aload_n B dX4_lookAhead_56 rfl rfl ?_
      refine gx_aload_n B dX4_lookAhead_57 rfl rfl ?_
      refine gx_getr (t := (a + 4)) B fl_X4_20 (kHand ha) (bHand ha) (rHand1 ha) dX4_lookAhead_58 ?_
      refine gx_iload_n B dX4_lookAhead_61 rfl rfl ?_
      refine z_aald b (a + 15 + 2 * b) B (kHg ha) (cHg ha) rfl (show b < 8 by omega) (by decide) (rHg ha (show b < 8 by omega)) dX4_lookAhead_62 ?_
      refine gx_iload B dX4_lookAhead_63 rfl ?_
      refine z_callVi [.int (zI (k : Int))] B lv_X4_75 (mX3_placeOf hG (gdH ha (by omega)) J (k := k) (by omega)) (kGoods (gdH ha (show b < 8 by omega))) (bGoods (gdH ha (show b < 8 by omega))) rfl rfl (Nat.le_of_ble_eq_true rfl) (by decide) (by decide) dX4_lookAhead_65 (fun r2 J1 hJ1 => ?_)
      rw [show r2 = hpl J a b k from hJ1.1, hJ1.2]
      refine gx_iload_n B dX4_lookAhead_68 rfl rfl ?_
      have hv9 : (m : Int) < n ∧ (m : Int) ≠ b ∧ ∀ j, j < hct Jb a m → 0 ≤ htc Jb a m j ∧ htc Jb a m j ≤ 1000 := by
        rcases hv with h | h
        · omega
        · exact ⟨h.2.1, h.2.2.1, by simpa using h.2.2.2⟩
      have ht9 := hv9.2.2
      have hmb : m ≠ b := by omega
      have hmn : m < n := by omega
      have hce : hct J a m = hct Jb a m := by rw [e2]
      have htm : htc J a m = htc Jb a m := funext fun j => hJ _ _ (by omega)
      have hfe : minN (fun j => absZ (hpl J a b k - hpl J a m j) + htc J a m j) 2147483647 (hct J a m) = laV Jb a b (m : Int) k := by
        unfold laV
        rw [if_neg (by omega), Int.toNat_natCast, e3, htm, e2]
      refine z_callVi [.int (zI (hpl J a b k)), .int (zI (m : Int))] B lv_X4_79 (by have h9 := mX4_fewestOnward (l := gx_la X) hG ha J (m := m) (n := n) (hP.keep hfr.c) (by omega) (p := hpl J a b k) (hpl_le J a b k).1 (hpl_le J a b k).2 (fun j hj => by rw [htm]; exact ht9 j (by rw [← hce]; exact hj)); rw [hfe] at h9; exact h9) (kHand ha) (bHand ha) rfl rfl (Nat.le_of_ble_eq_true rfl) (by decide) (by decide) dX4_lookAhead_69 (fun r4 J3 hJ3 => ?_)
      rw [show r4 = laV Jb a b (m : Int) k from hJ3.1, hJ3.2]
      refine z_iast k B (kHjr ha (show b < 8 by omega)) (cHjr ha (show b < 8 by omega)) rfl (show k < 20 by omega) (by decide) dX4_lookAhead_72 (fun J1 hJ1 => ?_)
      refine z_iinc (fun v => [(0, .ref (gx_ad G a)), (1, .int (zI (n : Int))), (2, .int (zI (m : Int))), (3, .int (zI (b : Int))), (4, .int (zI v))]) B dX4_lookAhead_73 rfl (by decide) rfl (fun _ => rfl) (fun v4 hv4 => ?_)
      obtain rfl : v4 = ((k + 1 : Nat) : Int) := by omega
      refine gx_goto (tgt := 25) B dX4_lookAhead_76 (by decide) ?_
      refine ih (by omega) J1 (fun x q h => by rw [hJ1, zup_ne (by omega)]; exact hJ x q h) (fun q hq1 => ?_)
      by_cases e : q = k
      · rw [e, hJ1, zup_self] <;> first | rfl | (unfold laV; rw [if_pos c49])
      · rw [hJ1, zup_ne (by omega)]; exact hq q (by omega)
    · refine z_iconst B dX4_lookAhead_52 ?_
      refine gx_goto (tgt := 72) B dX4_lookAhead_53 (by decide) ?_
      refine z_iast k B (kHjr ha (show b < 8 by omega)) (cHjr ha (show b < 8 by omega)) rfl (show k < 20 by omega) (by decide) dX4_lookAhead_72 (fun J1 hJ1 => ?_)
      refine z_iinc (fun v => [(0, .ref (gx_ad G a)), (1, .int (zI (n : Int))), (2, .int (zI nv)), (3, .int (zI (b : Int))), (4, .int (zI v))]) B dX4_lookAhead_73 rfl (by decide) rfl (fun _ => rfl) (fun v4 hv4 => ?_)
      obtain rfl : v4 = ((k + 1 : Nat) : Int) := by omega
      refine gx_goto (tgt := 25) B dX4_lookAhead_76 (by decide) ?_
      refine ih (by omega) J1 (fun x q h => by rw [hJ1, zup_ne (by omega)]; exact hJ x q h) (fun q hq1 => ?_)
      by_cases e : q = k
      · rw [e, hJ1, zup_self] <;> first | rfl | (unfold laV; rw [if_pos c49])
      · rw [hJ1, zup_ne (by omega)]; exact hq q (by omega)


theorem la_step {s : Nat → Int} {ct : Nat → Nat} {pl t t' : Nat → Nat → Int} {n b : Nat} {nv : Int} (hn8 : n ≤ 8) (hb : b < n) (hct : ∀ x, x < n → 1 ≤ ct x) (hpl : ∀ x k, 0 ≤ pl x k ∧ pl x k ≤ 21) (hm : ∃ m, isNx s n (b + 1) m ∧ nv = if m = n then -1 else (m : Int)) (hT : ∀ x, b + 1 ≤ x → x < n → HTb s ct pl t n x)
    (ht' : ∀ x k, x ≠ b → t' x k = t x k) (hv : ∀ k, k < ct b → t' b k = if nv = -1 then 0 else minN (fun j => absZ (pl b k - pl nv.toNat j) + t nv.toNat j) 2147483647 (ct nv.toNat)) : ∀ x, b ≤ x → x < n → HTb s ct pl t' n x := by
  obtain ⟨m, hm1, hm2⟩ := hm
  intro x h1 h2
  by_cases e : x = b
  · subst e
    intro h0 k hk
    have hvk := hv k hk
    by_cases em : m = n
    · rw [if_pos em] at hm2
      rw [if_pos hm2] at hvk
      refine ⟨by rw [hvk]; omega, fun m' hm' => ⟨fun _ => hvk, fun hl => ?_⟩⟩
      have := isNx_uni hm1 hm'
      omega
    · rw [if_neg em] at hm2
      rw [if_neg (by omega), hm2, Int.toNat_natCast] at hvk
      have hmn : m < n := by have := hm1.2.1; omega
      have hmx : x + 1 ≤ m := hm1.1
      have hTm := hT m hmx hmn (hm1.2.2.2 hmn)
      have hmin := minN_is (f := fun j => absZ (pl x k - pl m j) + t m j) (i := 2147483647) (n := ct m) (by have := hct m hmn; omega) (fun j hj => by
        have h3 := (hTm j hj).1
        have h4 := absZ_le (x := pl x k - pl m j) (b := 21) (by have := hpl x k; have := hpl m j; omega) (by have := hpl x k; have := hpl m j; omega)
        show absZ (pl x k - pl m j) + t m j ≤ _
        have : (21 : Int) * ((n : Int) - m) ≤ 21 * n := by omega
        omega)
      rw [← hvk] at hmin
      have hmin' : isMinZ (ct m) (fun j => absZ (pl x k - pl m j) + t' m j) (t' x k) := by
        have ef : (fun j => absZ (pl x k - pl m j) + t' m j) = (fun j => absZ (pl x k - pl m j) + t m j) := funext fun j => by rw [ht' m j (by omega)]
        rw [ef]; exact hmin
      refine ⟨?_, fun m' hm' => ?_⟩
      · obtain ⟨j, hj, ej⟩ := hmin.1
        have h3 := (hTm j hj).1
        have h4 := absZ_le (x := pl x k - pl m j) (b := 21) (by have := hpl x k; have := hpl m j; omega) (by have := hpl x k; have := hpl m j; omega)
        have ej' : absZ (pl x k - pl m j) + t m j = t' x k := ej
        omega
      · have := isNx_uni hm1 hm'
        subst this
        exact ⟨fun q => by omega, fun _ => hmin'⟩
  · intro h0 k hk
    have := hT x (by omega) h2 h0 k hk
    rw [ht' x k (by omega)]
    refine ⟨this.1, fun m' hm' => ⟨(this.2 m' hm').1, fun hl => ?_⟩⟩
    have ef : (fun j => absZ (pl x k - pl m' j) + t' m' j) = (fun j => absZ (pl x k - pl m' j) + t m' j) := funext fun j => by rw [ht' m' j (by have := hm'.1; omega)]
    rw [ef]; exact (this.2 m' hm').2 hl

theorem lpLaO {G : gx_G} {X : gx_X} (hG : gx_OK G 76) (B : gx_B G X RX4 cX4_lookAhead 5 rmX4_lookAhead 76) {a n : Nat} (ha : isHand a) {J0 : zJ} (hP : HPre J0 a n) (Rt : gx_Rv G X (zpv (fun J' => (∀ x, x < n → HTb (hsz J0 a) (hct J0 a) (hpl J0 a) (htc J' a) n x) ∧ LFr J0 J' a))) : ∀ i : Nat, ∀ (J : zJ) (nv : Int), LFr J0 J a → (∀ x, i ≤ x → x < n → HTb (hsz J0 a) (hct J0 a) (hpl J0 a) (htc J a) n x) → (∃ m, isNx (hsz J0 a) n i m ∧ nv = if m = n then -1 else (m : Int)) → i ≤ n → gx_WG G X 5 (zh J) 6 [(0, .ref (gx_ad G a)), (1, .int (zI (n : Int))), (2, .int (zI nv)), (3, .int (zI ((i : Int) - 1)))] [] := by
  refine dn_ind (fun i ih => ?_)
  intro J nv hfr hT hm hi
  have h8 := hP.1
  obtain ⟨e1, e2, e3⟩ := cfr_eq hfr.c
  refine gx_iload_n B dX4_lookAhead_6 rfl rfl ?_
  refine z_if_lt (tgt := 87) B dX4_lookAhead_7 ⟨by omega, by omega⟩ (by decide) (fun c7 => ?_) (fun c7 => ?_)
  · refine z_ret B Rt dX4_lookAhead_87 ?_
    have : i = 0 := by omega
    subst this
    exact ⟨fun x hx => hT x (by omega) hx, hfr⟩
  · have hs2 := hP.2 (i - 1) (by omega)
    have es : J (a + 15 + 2 * (i - 1)) 2 = hsz J0 a (i - 1) := hfr _ _ (by omega)
    have hb9 : 0 ≤ hsz J0 a (i - 1) ∧ hsz J0 a (i - 1) ≤ 3 := ⟨hs2.2.2.1, hs2.2.2.2⟩
    refine gx_aload_n B dX4_lookAhead_10 rfl rfl ?_
    refine gx_getr (t := (a + 4)) B fl_X4_20 (kHand ha) (bHand ha) (rHand1 ha) dX4_lookAhead_11 ?_
    refine gx_iload_n B dX4_lookAhead_14 rfl rfl ?_
    refine z_aald (i - 1) (a + 15 + 2 * (i - 1)) B (kHg ha) (cHg ha) (by omega) (show i - 1 < 8 by omega) (by decide) (rHg ha (show i - 1 < 8 by omega)) dX4_lookAhead_15 ?_
    refine z_geti B fl_X4_61 (kGoods (gdH ha (show i - 1 < 8 by omega))) (bGoods (gdH ha (show i - 1 < 8 by omega))) (zGoods2 (gdH ha (show i - 1 < 8 by omega))) dX4_lookAhead_16 ?_
    refine z_if_le (tgt := 81) B dX4_lookAhead_19 ⟨by omega, by omega⟩ (by decide) (fun c19 => ?_) (fun c19 => ?_)
    · have hs0 : ¬ 0 < hsz J0 a (i - 1) := by omega
      refine z_iinc (fun v => [(0, .ref (gx_ad G a)), (1, .int (zI (n : Int))), (2, .int (zI nv)), (3, .int (zI v))]) B dX4_lookAhead_81 rfl (by decide) rfl (fun _ => rfl) (fun v3 hv3 => ?_)
      obtain rfl : v3 = ((i - 1 : Nat) : Int) - 1 := by omega
      refine gx_goto (tgt := 6) B dX4_lookAhead_84 (by decide) ?_
      obtain ⟨m, hm1, hm2⟩ := hm
      refine ih (i - 1) (by omega) J nv hfr (fun x h1 h2 => ?_) ⟨m, ⟨by have := hm1.1; omega, hm1.2.1, fun x h1 h2 => ?_, hm1.2.2.2⟩, hm2⟩ (by omega)
      · by_cases e : x = i - 1
        · intro h0; rw [e] at h0; exact absurd h0 hs0
        · exact hT x (by omega) h2
      · by_cases e : x = i - 1
        · rw [e]; exact hs0
        · exact hm1.2.2.1 x (by omega) h2
    · have hs0 : 0 < hsz J0 a (i - 1) := by omega
      have hvv : nv = -1 ∨ (0 ≤ nv ∧ nv < n ∧ nv ≠ ((i - 1 : Nat) : Int) ∧ ∀ j, j < hct J a nv.toNat → 0 ≤ htc J a nv.toNat j ∧ htc J a nv.toNat j ≤ 1000) := by
        obtain ⟨m, hm1, hm2⟩ := hm
        by_cases em : m = n
        · rw [if_pos em] at hm2; exact Or.inl hm2
        · rw [if_neg em] at hm2
          have hmn : m < n := by have := hm1.2.1; omega
          have hmi : i ≤ m := hm1.1
          refine Or.inr ⟨by omega, by omega, by omega, fun j hj => ?_⟩
          rw [hm2, Int.toNat_natCast] at hj ⊢
          have h9 := (hT m hmi hmn (hm1.2.2.2 hmn) j (by rw [← e2]; exact hj)).1
          omega
      rw [show (i : Int) - 1 = ((i - 1 : Nat) : Int) by omega]
      have q0 := 0
      refine z_iconst B dX4_lookAhead_22 ?_
      refine z_istore (fun v => [(0, .ref (gx_ad G a)), (1, .int (zI (n : Int))), (2, .int (zI nv)), (3, .int (zI ((i - 1 : Nat) : Int))), (4, .int (zI v))]) B dX4_lookAhead_23 (by decide) rfl (fun _ => rfl) (fun v4 hv4 => ?_)
      obtain rfl : v4 = ((0 : Nat) : Int) := by omega
      refine lpLaI hG B ha (Jb := J) (b := i - 1) (n := n) (hP.keep hfr.c) (by omega) (nv := nv) hvv ?_ 0 (by omega) J (fun _ _ _ => rfl) (fun q hq => absurd hq (Nat.not_lt_zero q))
      intro J1 hJ1 hV1
      refine gx_iload_n B dX4_lookAhead_79 rfl rfl ?_
      refine z_istore_n (fun v => [(0, .ref (gx_ad G a)), (1, .int (zI (n : Int))), (2, .int (zI v)), (3, .int (zI ((i - 1 : Nat) : Int)))]) B dX4_lookAhead_80 rfl (by decide) rfl (fun _ => rfl) (fun v2 hv2 => ?_)
      obtain rfl : v2 = ((i - 1 : Nat) : Int) := by omega
      refine z_iinc (fun v => [(0, .ref (gx_ad G a)), (1, .int (zI (n : Int))), (2, .int (zI ((i - 1 : Nat) : Int))), (3, .int (zI v))]) B dX4_lookAhead_81 rfl (by decide) rfl (fun _ => rfl) (fun v3 hv3 => ?_)
      obtain rfl : v3 = ((i - 1 : Nat) : Int) - 1 := by omega
      refine gx_goto (tgt := 6) B dX4_lookAhead_84 (by decide) ?_
      refine ih (i - 1) (by omega) J1 ((i - 1 : Nat) : Int) (fun x k h => by rw [hJ1 x k (by omega)]; exact hfr x k h) ?_ ⟨i - 1, ⟨Nat.le_refl _, by omega, fun x h1 h2 => by omega, fun _ => hs0⟩, by rw [if_neg (by omega)]⟩ (by omega)
      refine la_step (nv := nv) (t := htc J a) h8 (by omega) (fun x hx => by have := (hP.ct hx).2.1; exact this) (fun x k => hpl_le J0 a x k) (by rw [show i - 1 + 1 = i by omega]; exact hm) (by rw [show i - 1 + 1 = i by omega]; exact hT) (fun x k hx => hJ1 _ _ (by omega)) (fun k hk => ?_)
      have h9 := hV1 k (by rw [e2]; exact hk)
      unfold laV at h9
      rw [e3, e2] at h9
      exact h9

theorem mX4_lookAhead {l : Launch} {G : gx_G} (hG : gx_OK G 76) {a n : Nat} (ha : isHand a) (J : zJ) (hP : HPre J a n) : zMv l G yX4_lookAhead cX4_lookAhead 5 rmX4_lookAhead [.ref (gx_ad G a), .int (zI (n : Int))] J (fun J' => (∀ x, x < n → HTb (hsz J a) (hct J a) (hpl J a) (htc J' a) n x) ∧ LFr J J' a) := by
  refine gx_mv hG (by decide) (Nat.le_of_ble_eq_true rfl) (fun X hla B Rt => ?_)
  subst hla
  have B : gx_B G X RX4 cX4_lookAhead 5 rmX4_lookAhead 76 := B
  show gx_WG G X 5 (zh J) 0 [(0, .ref (gx_ad G a)), (1, .int (zI (n : Int)))] []
  refine z_iconst B dX4_lookAhead_0 ?_
  refine z_istore_n (fun v => [(0, .ref (gx_ad G a)), (1, .int (zI (n : Int))), (2, .int (zI v))]) B dX4_lookAhead_1 rfl (by decide) rfl (fun _ => rfl) (fun v hv => ?_)
  subst hv
  refine gx_iload_n B dX4_lookAhead_2 rfl rfl ?_
  refine z_iconst B dX4_lookAhead_3 ?_
  refine z_isub B dX4_lookAhead_4 ?_
  refine z_istore_n (fun v => [(0, .ref (gx_ad G a)), (1, .int (zI (n : Int))), (2, .int (zI (-1))), (3, .int (zI v))]) B dX4_lookAhead_5 rfl (by decide) rfl (fun _ => rfl) (fun v hv => ?_)
  subst hv
  exact lpLaO hG B ha hP Rt n J (-1) (fun _ _ _ => rfl) (fun x h1 h2 => by omega) ⟨n, ⟨Nat.le_refl _, Nat.le_refl _, fun x h1 h2 => by omega, fun h => by omega⟩, by rw [if_pos rfl]⟩ (Nat.le_refl _)
end
section

def HandS (s : Nat → Int) (ct : Nat → Nat) (pl : Nat → Nat → Int) (n i : Nat) (J : zJ) (a : Nat) : Prop := (∀ x, x < n → HTb s ct pl (htc J a) n x) ∧ (∀ b, b < i → (0 ≤ J (a + 5) b ∧ J (a + 5) b < 20) ∧ HCb s ct pl (htc J a) (hch J a) b) ∧ J a 3 = jsum s pl (hch J a) i
/-- a hand that has chosen -/
def HandOK (J : zJ) (a n : Nat) : Prop := HandS (hsz J a) (hct J a) (hpl J a) n n J a
theorem hch_eq {J J' : zJ} {a x : Nat} (h : J' (a + 5) x = J (a + 5) x) : hch J' a x = hch J a x := by unfold hch; rw [h]
theorem ch_none {s : Nat → Int} {ct : Nat → Nat} {pl : Nat → Nat → Int} {n i a : Nat} {J J1 : zJ} (h : HandS s ct pl n i J a) (hJ1 : J1 = zup J (a + 5) i 0) (hs : ¬ 0 < s i) : HandS s ct pl n (i + 1) J1 a := by
  obtain ⟨h1, h2, h3⟩ := h
  have et : htc J1 a = htc J a := funext fun b => funext fun k => by unfold htc; rw [hJ1, zup_ne (by omega)]
  have ec : ∀ x, x < i → hch J a x = hch J1 a x := fun x hx => by unfold hch; rw [hJ1, zup_ne (by omega)]
  have e0 : hch J1 a i = 0 := by unfold hch; rw [hJ1, zup_self]; rfl
  refine ⟨by rw [et]; exact h1, fun b hb => ?_, ?_⟩
  · by_cases e : b = i
    · subst e
      refine ⟨by rw [hJ1, zup_self]; omega, fun _ => e0, fun q => absurd q hs⟩
    · have := h2 b (by omega)
      refine ⟨by rw [hJ1, zup_ne (by omega)]; exact this.1, ?_⟩
      rw [et]; exact HCb_congr (fun x hx => ec x (by omega)) this.2
  · have ej : J1 a 3 = J a 3 := by rw [hJ1, zup_ne (by omega)]
    show J1 a 3 = jsum s pl (hch J1 a) i + (if 0 < s i then jf pl (hch J1 a) (pvF s i) i (hch J1 a i) else 0)
    rw [if_neg hs, ej, h3, jsum_congr ec]; omega
theorem ch_some {s : Nat → Int} {ct : Nat → Nat} {pl : Nat → Nat → Int} {n i a fb : Nat} {J J1 J2 J3 : zJ} (h : HandS s ct pl n i J a) (hJ1 : J1 = zup J (a + 5) i 0) (hs : 0 < s i) (hJ2 : J2 = zup J1 (a + 5) i (fb : Int)) (hJ3 : J3 = zup J2 a 3 (J2 a 3 + jf pl (hch J2 a) (pvF s i) i fb)) (hfb : isFst (ct i) (fun k => jf pl (hch J1 a) (pvF s i) i k + htc J1 a i k) fb) (h20 : fb < 20) : HandS s ct pl n (i + 1) J3 a := by
  obtain ⟨h1, h2, h3⟩ := h
  have et : htc J3 a = htc J a := funext fun b => funext fun k => by unfold htc; rw [hJ3, zup_ne (by omega), hJ2, zup_ne (by omega), hJ1, zup_ne (by omega)]
  have et1 : htc J1 a = htc J a := funext fun b => funext fun k => by unfold htc; rw [hJ1, zup_ne (by omega)]
  have ec : ∀ x, x < i → hch J a x = hch J3 a x := fun x hx => by unfold hch; rw [hJ3, zup_ne (by omega), hJ2, zup_ne (by omega), hJ1, zup_ne (by omega)]
  have ec1 : ∀ x, x < i → hch J1 a x = hch J3 a x := fun x hx => by unfold hch; rw [hJ3, zup_ne (by omega), hJ2, zup_ne (by omega)]
  have ec2 : ∀ x, x < i → hch J2 a x = hch J3 a x := fun x hx => by unfold hch; rw [hJ3, zup_ne (by omega)]
  have e0 : hch J3 a i = fb := by unfold hch; rw [hJ3, zup_ne (by omega), hJ2, zup_self]; simp
  refine ⟨by rw [et]; exact h1, fun b hb => ?_, ?_⟩
  · by_cases e : b = i
    · subst e
      refine ⟨by rw [hJ3, zup_ne (by omega), hJ2, zup_self]; omega, fun q => absurd hs q, fun _ => ?_⟩
      rw [e0, et, ← et1]
      have ef : (fun k => jf pl (hch J3 a) (pvF s b) b k + htc J1 a b k) = (fun k => jf pl (hch J1 a) (pvF s b) b k + htc J1 a b k) := funext fun k => by rw [jf_congr ec1 k]
      rw [ef]; exact hfb
    · have := h2 b (by omega)
      refine ⟨by rw [hJ3, zup_ne (by omega), hJ2, zup_ne (by omega), hJ1, zup_ne (by omega)]; exact this.1, ?_⟩
      rw [et]; exact HCb_congr (fun x hx => ec x (by omega)) this.2
  · have e3 : J2 a 3 = jsum s pl (hch J a) i := by rw [hJ2, zup_ne (by omega), hJ1, zup_ne (by omega), h3]
    have ej : J3 a 3 = jsum s pl (hch J a) i + jf pl (hch J2 a) (pvF s i) i fb := by rw [hJ3, zup_self, e3]
    show J3 a 3 = jsum s pl (hch J3 a) i + (if 0 < s i then jf pl (hch J3 a) (pvF s i) i (hch J3 a i) else 0)
    rw [if_pos hs, ej, jsum_congr ec, e0, jf_congr ec2]

theorem lpCho {G : gx_G} {X : gx_X} (hG : gx_OK G 76) (B : gx_B G X RX4 cX4_choose 4 rmX4_choose 76) {a n : Nat} (ha : isHand a) {J0 : zJ} (hP : HPre J0 a n) (Rt : gx_Rv G X (zpv (fun J' => HandOK J' a n ∧ CFr J0 J' a))) : ∀ i : Nat, i ≤ n → ∀ (J : zJ), CFr J0 J a → HandS (hsz J0 a) (hct J0 a) (hpl J0 a) n i J a → gx_WG G X 4 (zh J) 14 [(0, .ref (gx_ad G a)), (1, .int (zI (n : Int))), (2, .int (zI (pvF (hsz J0 a) i))), (3, .int (zI (i : Int)))] [] := by
  refine up_ind (fun i hi ih => ?_)
  intro J hfr hS
  have h8 := hP.1
  refine gx_iload_n B dX4_choose_14 rfl rfl ?_
  refine gx_iload_n B dX4_choose_15 rfl rfl ?_
  refine z_icmp_ge (tgt := 79) B dX4_choose_16 ⟨by omega, by omega⟩ ⟨by omega, by omega⟩ (by decide) (fun c16 => ?_) (fun c16 => ?_)
  · refine z_ret B Rt dX4_choose_79 ?_
    obtain rfl : i = n := by omega
    obtain ⟨e1, e2, e3⟩ := cfr_eq hfr
    refine ⟨?_, hfr⟩
    unfold HandOK
    rw [e1, e2, e3]
    exact hS
  · refine gx_aload_n B dX4_choose_19 rfl rfl ?_
    refine gx_getr (t := (a + 5)) B fl_X4_24 (kHand ha) (bHand ha) (rHand2 ha) dX4_choose_20 ?_
    refine gx_iload_n B dX4_choose_23 rfl rfl ?_
    refine z_iconst B dX4_choose_24 ?_
    refine z_iast i B (kHc ha) (cHc ha) rfl (show i < 8 by omega) (by decide) dX4_choose_25 (fun Jz hJz => ?_)
    have hfz : CFr J0 Jz a := fun x k h1 h2 h3 => by rw [hJz, zup_ne (by omega)]; exact hfr x k h1 h2 h3
    obtain ⟨e1, e2, e3⟩ := cfr_eq hfz
    have es : Jz (a + 15 + 2 * i) 2 = hsz J0 a i := hfz _ _ (by omega) (by omega) (by omega)
    have hs2 := hP.2 i (by omega)
    have hb9 : 0 ≤ hsz J0 a i ∧ hsz J0 a i ≤ 3 := ⟨hs2.2.2.1, hs2.2.2.2⟩
    refine gx_aload_n B dX4_choose_26 rfl rfl ?_
    refine gx_getr (t := (a + 4)) B fl_X4_20 (kHand ha) (bHand ha) (rHand1 ha) dX4_choose_27 ?_
    refine gx_iload_n B dX4_choose_30 rfl rfl ?_
    refine z_aald i (a + 15 + 2 * i) B (kHg ha) (cHg ha) rfl (show i < 8 by omega) (by decide) (rHg ha (show i < 8 by omega)) dX4_choose_31 ?_
    refine z_geti B fl_X4_61 (kGoods (gdH ha (show i < 8 by omega))) (bGoods (gdH ha (show i < 8 by omega))) (zGoods2 (gdH ha (show i < 8 by omega))) dX4_choose_32 ?_
    refine z_if_le (tgt := 73) B dX4_choose_35 ⟨by omega, by omega⟩ (by decide) (fun c35 => ?_) (fun c35 => ?_)
    · have hs0 : ¬ 0 < hsz J0 a i := by omega
      refine z_iinc (fun v => [(0, .ref (gx_ad G a)), (1, .int (zI (n : Int))), (2, .int (zI (pvF (hsz J0 a) i))), (3, .int (zI v))]) B dX4_choose_73 rfl (by decide) rfl (fun _ => rfl) (fun v3 hv3 => ?_)
      obtain rfl : v3 = ((i + 1 : Nat) : Int) := by omega
      refine gx_goto (tgt := 14) B dX4_choose_76 (by decide) ?_
      have h9 := ih (by omega) Jz hfz (ch_none hS hJz hs0)
      have e : pvF (hsz J0 a) (i + 1) = pvF (hsz J0 a) i := by
        show (if 0 < hsz J0 a i then _ else _) = _
        rw [if_neg hs0]
      rw [e] at h9
      exact h9
    · have hs0 : 0 < hsz J0 a i := by omega
      have hpl0 := pvF_lt (s := hsz J0 a) i
      have hpv : pvF (hsz J0 a) i = -1 ∨ (0 ≤ pvF (hsz J0 a) i ∧ pvF (hsz J0 a) i < n ∧ 0 ≤ Jz (a + 5) (pvF (hsz J0 a) i).toNat ∧ Jz (a + 5) (pvF (hsz J0 a) i).toNat < 20) := by
        rcases hpl0 with h | h
        · exact Or.inl h
        · have h5 := (hS.2.1 (pvF (hsz J0 a) i).toNat (by omega)).1
          refine Or.inr ⟨h.1, by omega, ?_⟩
          rw [hJz, zup_ne (by omega)]; exact h5
      have htz : htc Jz a = htc J a := funext fun b => funext fun k => by unfold htc; rw [hJz, zup_ne (by omega)]
      have hth : ∀ j, j < hct Jz a i → 0 ≤ htc Jz a i j ∧ htc Jz a i j ≤ 1000 := fun j hj => by
        rw [e2] at hj
        have h6 := (hS.1 i (by omega) hs0 j hj).1
        rw [htz]; omega
      have hci := hP.ct (b := i) (by omega)
      obtain ⟨fb, hfb0⟩ : ∃ fb : Nat, fb = (fbN (fun k => jfc Jz a (hch Jz a) (pvF (hsz J0 a) i) i k + htc Jz a i k) (hct Jz a i)).2 := ⟨_, rfl⟩
      have hfbe : (fb : Int) = ((fbN (fun k => jfc Jz a (hch Jz a) (pvF (hsz J0 a) i) i k + htc Jz a i k) (hct Jz a i)).2 : Int) := by rw [hfb0]
      have hfst : isFst (hct J0 a i) (fun k => jf (hpl J0 a) (hch Jz a) (pvF (hsz J0 a) i) i k + htc Jz a i k) fb := by
        have h7 := ((fbN_is (f := (fun k => jfc Jz a (hch Jz a) (pvF (hsz J0 a) i) i k + htc Jz a i k)) (n := hct Jz a i) (fun k hk => by have h1 := jfc_le Jz a (hch Jz a) (pvF (hsz J0 a) i) i k; have h2 := hth k hk; show jfc Jz a (hch Jz a) (pvF (hsz J0 a) i) i k + htc Jz a i k < _; omega)).2 (by rw [e2]; omega)).1
        rw [← hfb0, e2] at h7
        have ef : (fun k => jfc Jz a (hch Jz a) (pvF (hsz J0 a) i) i k + htc Jz a i k) = (fun k => jf (hpl J0 a) (hch Jz a) (pvF (hsz J0 a) i) i k + htc Jz a i k) := by rw [← e3]; rfl
        rw [ef] at h7; exact h7
      have h20 : fb < 20 := by have := hfst.1; omega
      refine gx_aload_n B dX4_choose_38 rfl rfl ?_
      refine gx_getr (t := (a + 5)) B fl_X4_24 (kHand ha) (bHand ha) (rHand2 ha) dX4_choose_39 ?_
      refine gx_iload_n B dX4_choose_42 rfl rfl ?_
      refine gx_aload_n B dX4_choose_43 rfl rfl ?_
      refine gx_iload_n B dX4_choose_44 rfl rfl ?_
      refine gx_iload_n B dX4_choose_45 rfl rfl ?_
      refine z_callVi [.int (zI (pvF (hsz J0 a) i)), .int (zI (i : Int))] B lv_X4_64 (by have h9 := mX4_firstBest (l := gx_la X) hG ha Jz (b := i) (n := n) (hP.keep hfz) (by omega) (pv := pvF (hsz J0 a) i) hpv (fun j hj => hth j hj); rw [← hfbe] at h9; exact h9) (kHand ha) (bHand ha) rfl rfl (Nat.le_of_ble_eq_true rfl) (by decide) (by decide) dX4_choose_46 (fun r2 J1 hJ1 => ?_)
      rw [show r2 = (fb : Int) from hJ1.1, hJ1.2]
      refine z_iast i B (kHc ha) (cHc ha) rfl (show i < 8 by omega) (by decide) dX4_choose_49 (fun Jc hJc => ?_)
      have hpv2 : pvF (hsz J0 a) i = -1 ∨ (0 ≤ pvF (hsz J0 a) i ∧ pvF (hsz J0 a) i < n ∧ 0 ≤ Jc (a + 5) (pvF (hsz J0 a) i).toNat ∧ Jc (a + 5) (pvF (hsz J0 a) i).toNat < 20) := by
        rcases hpv with h | h
        · exact Or.inl h
        · rcases hpl0 with h0 | h0
          · exact Or.inl h0
          · refine Or.inr ⟨h.1, h.2.1, ?_⟩
            rw [hJc, zup_ne (by omega)]; exact h.2.2
      have ejf : jfc Jc a (hch Jc a) (pvF (hsz J0 a) i) i fb = jf (hpl J0 a) (hch Jc a) (pvF (hsz J0 a) i) i fb := by
        have hfc : CFr J0 Jc a := fun x k h1 h2 h3 => by rw [hJc, zup_ne (by omega)]; exact hfz x k h1 h2 h3
        rw [← (cfr_eq hfc).2.2]; rfl
      refine gx_aload_n B dX4_choose_50 rfl rfl ?_
      refine gx_dup B dX4_choose_51 rfl ?_
      refine z_geti B fl_X4_28 (kHand ha) (bHand ha) (zHand3 ha) dX4_choose_52 ?_
      refine gx_aload_n B dX4_choose_55 rfl rfl ?_
      refine gx_iload_n B dX4_choose_56 rfl rfl ?_
      refine gx_iload_n B dX4_choose_57 rfl rfl ?_
      refine gx_aload_n B dX4_choose_58 rfl rfl ?_
      refine gx_getr (t := (a + 5)) B fl_X4_24 (kHand ha) (bHand ha) (rHand2 ha) dX4_choose_59 ?_
      refine gx_iload_n B dX4_choose_62 rfl rfl ?_
      refine z_iald i B (kHc ha) (cHc ha) rfl (show i < 8 by omega) (by decide) dX4_choose_63 ?_
      rw [show Jc (a + 5) i = (fb : Int) from (by rw [hJc, zup_self])]
      refine z_callVi [.int (zI (pvF (hsz J0 a) i)), .int (zI (i : Int)), .int (zI (fb : Int))] B lv_X4_68 (by have h9 := mX4_jumpFromChosen (l := gx_la X) hG ha Jc (b := i) (n := n) (k := fb) hP.1 (by omega) h20 (pv := pvF (hsz J0 a) i) hpv2; rw [ejf] at h9; exact h9) (kHand ha) (bHand ha) rfl rfl (Nat.le_of_ble_eq_true rfl) (by decide) (by decide) dX4_choose_64 (fun r4 J3 hJ3 => ?_)
      rw [show r4 = jf (hpl J0 a) (hch Jc a) (pvF (hsz J0 a) i) i fb from hJ3.1, hJ3.2]
      refine z_iadd B dX4_choose_67 ?_
      refine z_puti B fw_X4_28 (kHand ha) (bHand ha) (zHand3 ha) dX4_choose_68 (fun Jj hJj => ?_)
      refine gx_iload_n B dX4_choose_71 rfl rfl ?_
      refine z_istore_n (fun v => [(0, .ref (gx_ad G a)), (1, .int (zI (n : Int))), (2, .int (zI v)), (3, .int (zI (i : Int)))]) B dX4_choose_72 rfl (by decide) rfl (fun _ => rfl) (fun v2 hv2 => ?_)
      obtain rfl : v2 = (i : Int) := by omega
      refine z_iinc (fun v => [(0, .ref (gx_ad G a)), (1, .int (zI (n : Int))), (2, .int (zI (i : Int))), (3, .int (zI v))]) B dX4_choose_73 rfl (by decide) rfl (fun _ => rfl) (fun v3 hv3 => ?_)
      obtain rfl : v3 = ((i + 1 : Nat) : Int) := by omega
      refine gx_goto (tgt := 14) B dX4_choose_76 (by decide) ?_
      have h9 := ih (by omega) Jj (fun x k h1 h2 h3 => by rw [hJj, zup_ne h3, hJc, zup_ne (by omega)]; exact hfz x k h1 h2 h3) (ch_some hS hJz hs0 hJc hJj hfst h20)
      have e : pvF (hsz J0 a) (i + 1) = (i : Int) := by
        show (if 0 < hsz J0 a i then _ else _) = _
        rw [if_pos hs0]
      rw [e] at h9
      exact h9

theorem mX4_choose {l : Launch} {G : gx_G} (hG : gx_OK G 76) {a n : Nat} (ha : isHand a) (J : zJ) (hP : HPre J a n) : zMv l G yX4_choose cX4_choose 4 rmX4_choose [.ref (gx_ad G a), .int (zI (n : Int))] J (fun J' => HandOK J' a n ∧ CFr J J' a) := by
  refine gx_mv hG (by decide) (Nat.le_of_ble_eq_true rfl) (fun X hla B Rt => ?_)
  subst hla
  have B : gx_B G X RX4 cX4_choose 4 rmX4_choose 76 := B
  show gx_WG G X 4 (zh J) 0 [(0, .ref (gx_ad G a)), (1, .int (zI (n : Int)))] []
  refine gx_aload_n B dX4_choose_0 rfl rfl ?_
  refine gx_iload_n B dX4_choose_1 rfl rfl ?_
  refine z_callVv [.int (zI (n : Int))] B lv_X4_57 (mX4_lookAhead hG ha J hP) (kHand ha) (bHand ha) rfl rfl (Nat.le_of_ble_eq_true rfl) (by decide) (by decide) dX4_choose_2 (fun J1 hJ1 => ?_)
  refine gx_aload_n B dX4_choose_5 rfl rfl ?_
  refine z_iconst B dX4_choose_6 ?_
  refine z_puti B fw_X4_28 (kHand ha) (bHand ha) (zHand3 ha) dX4_choose_7 (fun J2 hJ2 => ?_)
  refine z_iconst B dX4_choose_10 ?_
  refine z_istore_n (fun v => [(0, .ref (gx_ad G a)), (1, .int (zI (n : Int))), (2, .int (zI v))]) B dX4_choose_11 rfl (by decide) rfl (fun _ => rfl) (fun v2 hv2 => ?_)
  obtain rfl : v2 = pvF (hsz J a) 0 := by rw [hv2]; rfl
  refine z_iconst B dX4_choose_12 ?_
  refine z_istore_n (fun v => [(0, .ref (gx_ad G a)), (1, .int (zI (n : Int))), (2, .int (zI (pvF (hsz J a) 0))), (3, .int (zI v))]) B dX4_choose_13 rfl (by decide) rfl (fun _ => rfl) (fun v3 hv3 => ?_)
  obtain rfl : v3 = ((0 : Nat) : Int) := by omega
  refine lpCho hG B ha hP Rt 0 (by omega) J2 (fun x k h1 h2 h3 => by rw [hJ2, zup_ne h3]; exact hJ1.2 x k h1) ⟨?_, fun b hb => by omega, by rw [hJ2, zup_self]; rfl⟩
  have et : htc J2 a = htc J1 a := funext fun b => funext fun k => by unfold htc; rw [hJ2, zup_ne (by omega)]
  rw [et]; exact hJ1.1
end
section

def orN (f : Nat → Int) : Nat → Int
  | 0 => 0
  | n + 1 => zor (orN f n) (f n)
def sumN (f : Nat → Int) : Nat → Int
  | 0 => 0
  | n + 1 => sumN f n + f n
theorem sumN_le {f : Nat → Int} {b : Int} (hb : 0 ≤ b) : ∀ {n : Nat}, (∀ k, k < n → 0 ≤ f k ∧ f k ≤ b) → 0 ≤ sumN f n ∧ sumN f n ≤ b * n
  | 0, _ => by simp [sumN]
  | n + 1, h => by
    have h1 := sumN_le hb (n := n) (fun k hk => h k (by omega))
    have h2 := h n (by omega)
    unfold sumN
    rw [show b * ((n + 1 : Nat) : Int) = b * n + b by push_cast; rw [Int.mul_add]; omega]
    omega
/-- the sound of the chosen setting of a beat -/
def hnt (J : zJ) (a b : Nat) : Int := orN (fun i => J (a + 2) (digZ (J (a + 15 + 2 * b) 2) (J (a + 15 + 2 * b + 1) (hch J a b)) i).toNat) (J (a + 15 + 2 * b) 2).toNat

theorem lpNts {G : gx_G} {X : gx_X} (hG : gx_OK G 76) (B : gx_B G X RX4 cX4_notesOf 4 rmX4_notesOf 76) {a b : Nat} (ha : isHand a) {J : zJ} (hb : b < 8) (hs0 : 0 ≤ J (a + 15 + 2 * b) 2) (hs1 : J (a + 15 + 2 * b) 2 ≤ 3) (hc0 : 0 ≤ J (a + 5) b) (hc1 : J (a + 5) b < 20) (hd : ∀ i : Nat, (i : Int) < J (a + 15 + 2 * b) 2 → digZ (J (a + 15 + 2 * b) 2) (J (a + 15 + 2 * b + 1) (hch J a b)) i ≤ 71) (Rt : gx_Ri G X .int (zpi (fun r J' => r = hnt J a b ∧ J' = J))) : ∀ i : Nat, i ≤ (J (a + 15 + 2 * b) 2).toNat → gx_WG G X 4 (zh J) 4 [(0, .ref (gx_ad G a)), (1, .int (zI (b : Int))), (2, .int (zI (orN (fun i => J (a + 2) (digZ (J (a + 15 + 2 * b) 2) (J (a + 15 + 2 * b + 1) (hch J a b)) i).toNat) i))), (3, .int (zI (i : Int)))] [] := by
  refine up_ind (fun i hi ih => ?_)
  refine gx_iload_n B dX4_notesOf_4 rfl rfl ?_
  refine gx_aload_n B dX4_notesOf_5 rfl rfl ?_
  refine gx_getr (t := (a + 4)) B fl_X4_20 (kHand ha) (bHand ha) (rHand1 ha) dX4_notesOf_6 ?_
  refine gx_iload_n B dX4_notesOf_9 rfl rfl ?_
  refine z_aald b (a + 15 + 2 * b) B (kHg ha) (cHg ha) rfl hb (by decide) (rHg ha hb) dX4_notesOf_10 ?_
  refine z_geti B fl_X4_61 (kGoods (gdH ha hb)) (bGoods (gdH ha hb)) (zGoods2 (gdH ha hb)) dX4_notesOf_11 ?_
  refine z_icmp_ge (tgt := 50) B dX4_notesOf_14 ⟨by omega, by omega⟩ ⟨by omega, by omega⟩ (by decide) (fun c14 => ?_) (fun c14 => ?_)
  · refine gx_iload_n B dX4_notesOf_50 rfl rfl ?_
    refine z_ireti B Rt dX4_notesOf_51 ?_
    refine ⟨?_, rfl⟩
    unfold hnt
    rw [show i = (J (a + 15 + 2 * b) 2).toNat by omega]
  · refine gx_iload_n B dX4_notesOf_17 rfl rfl ?_
    refine gx_aload_n B dX4_notesOf_18 rfl rfl ?_
    refine gx_getr (t := (a + 1)) B fl_X4_12 (kHand ha) (bHand ha) (rHand0 ha) dX4_notesOf_19 ?_
    refine gx_getr (t := ((a + 1) + 1)) B fl_X4_93 (kBoard (bdH ha)) (bBoard (bdH ha)) (rBoard0 (bdH ha)) dX4_notesOf_22 ?_
    refine gx_aload_n B dX4_notesOf_25 rfl rfl ?_
    refine gx_getr (t := (a + 4)) B fl_X4_20 (kHand ha) (bHand ha) (rHand1 ha) dX4_notesOf_26 ?_
    refine gx_iload_n B dX4_notesOf_29 rfl rfl ?_
    refine z_aald b (a + 15 + 2 * b) B (kHg ha) (cHg ha) rfl hb (by decide) (rHg ha hb) dX4_notesOf_30 ?_
    refine gx_aload_n B dX4_notesOf_31 rfl rfl ?_
    refine gx_getr (t := (a + 5)) B fl_X4_24 (kHand ha) (bHand ha) (rHand2 ha) dX4_notesOf_32 ?_
    refine gx_iload_n B dX4_notesOf_35 rfl rfl ?_
    refine z_iald b B (kHc ha) (cHc ha) rfl hb (by decide) dX4_notesOf_36 ?_
    rw [show J (a + 5) b = (hch J a b : Int) from (by unfold hch; omega)]
    refine gx_iload_n B dX4_notesOf_37 rfl rfl ?_
    have hdi := hd i (by omega)
    have hd0 := dig_le (J (a + 15 + 2 * b) 2) (J (a + 15 + 2 * b + 1) (hch J a b)) i
    refine z_callVi [.int (zI (hch J a b : Int)), .int (zI (i : Int))] B lv_X4_96 (mX3_buttonAt hG (gdH ha hb) J (k := hch J a b) (by unfold hch; omega) (i := (i : Int))) (kGoods (gdH ha hb)) (bGoods (gdH ha hb)) rfl rfl (Nat.le_of_ble_eq_true rfl) (by decide) (by decide) dX4_notesOf_38 (fun r2 J1 hJ1 => ?_)
    rw [show r2 = digZ (J (a + 15 + 2 * b) 2) (J (a + 15 + 2 * b + 1) (hch J a b)) i from hJ1.1, hJ1.2]
    refine z_iald ((digZ (J (a + 15 + 2 * b) 2) (J (a + 15 + 2 * b + 1) (hch J a b)) i).toNat) B (aBoard1 (bdH ha)) (cBoard1 (bdH ha)) (by omega) (by omega) (by decide) dX4_notesOf_41 ?_
    refine z_ior B dX4_notesOf_42 ?_
    refine z_istore_n (fun v => [(0, .ref (gx_ad G a)), (1, .int (zI (b : Int))), (2, .int (zI v)), (3, .int (zI (i : Int)))]) B dX4_notesOf_43 rfl (by decide) rfl (fun _ => rfl) (fun v2 hv2 => ?_)
    obtain rfl : v2 = orN (fun i => J (a + 2) (digZ (J (a + 15 + 2 * b) 2) (J (a + 15 + 2 * b + 1) (hch J a b)) i).toNat) (i + 1) := by rw [hv2]; rfl
    refine z_iinc (fun v => [(0, .ref (gx_ad G a)), (1, .int (zI (b : Int))), (2, .int (zI (orN (fun i => J (a + 2) (digZ (J (a + 15 + 2 * b) 2) (J (a + 15 + 2 * b + 1) (hch J a b)) i).toNat) (i + 1)))), (3, .int (zI v))]) B dX4_notesOf_44 rfl (by decide) rfl (fun _ => rfl) (fun v3 hv3 => ?_)
    obtain rfl : v3 = ((i + 1 : Nat) : Int) := by omega
    refine gx_goto (tgt := 4) B dX4_notesOf_47 (by decide) ?_
    exact ih (by omega)

theorem mX4_notesOf {l : Launch} {G : gx_G} (hG : gx_OK G 76) {a b : Nat} (ha : isHand a) (J : zJ) (hb : b < 8) (hs0 : 0 ≤ J (a + 15 + 2 * b) 2) (hs1 : J (a + 15 + 2 * b) 2 ≤ 3) (hc0 : 0 ≤ J (a + 5) b) (hc1 : J (a + 5) b < 20) (hd : ∀ i : Nat, (i : Int) < J (a + 15 + 2 * b) 2 → digZ (J (a + 15 + 2 * b) 2) (J (a + 15 + 2 * b + 1) (hch J a b)) i ≤ 71) : zMi l G yX4_notesOf cX4_notesOf 4 .int rmX4_notesOf [.ref (gx_ad G a), .int (zI (b : Int))] J (fun r J' => r = hnt J a b ∧ J' = J) := by
  refine gx_mi hG (by decide) (Nat.le_of_ble_eq_true rfl) (fun X hla B Rt => ?_)
  subst hla
  have B : gx_B G X RX4 cX4_notesOf 4 rmX4_notesOf 76 := B
  show gx_WG G X 4 (zh J) 0 [(0, .ref (gx_ad G a)), (1, .int (zI (b : Int)))] []
  refine z_iconst B dX4_notesOf_0 ?_
  refine z_istore_n (fun v => [(0, .ref (gx_ad G a)), (1, .int (zI (b : Int))), (2, .int (zI v))]) B dX4_notesOf_1 rfl (by decide) rfl (fun _ => rfl) (fun v2 hv2 => ?_)
  obtain rfl : v2 = orN (fun i => J (a + 2) (digZ (J (a + 15 + 2 * b) 2) (J (a + 15 + 2 * b + 1) (hch J a b)) i).toNat) 0 := by rw [hv2]; rfl
  refine z_iconst B dX4_notesOf_2 ?_
  refine z_istore_n (fun v => [(0, .ref (gx_ad G a)), (1, .int (zI (b : Int))), (2, .int (zI (orN (fun i => J (a + 2) (digZ (J (a + 15 + 2 * b) 2) (J (a + 15 + 2 * b + 1) (hch J a b)) i).toNat) 0))), (3, .int (zI v))]) B dX4_notesOf_3 rfl (by decide) rfl (fun _ => rfl) (fun v3 hv3 => ?_)
  obtain rfl : v3 = ((0 : Nat) : Int) := by omega
  exact lpNts hG B ha hb hs0 hs1 hc0 hc1 hd Rt 0 (by omega)

theorem mX4_hasSameButtons {l : Launch} {G : gx_G} (hG : gx_OK G 76) {a c b : Nat} (ha : isHand a) (hc : isHand c) (J : zJ) (hb : b < 8) (z1 : (zB (J (a + 15 + 2 * b) 2))) (z2 : (zB (J (c + 15 + 2 * b) 2))) (y1 : (0 ≤ J (a + 5) b ∧ J (a + 5) b < 20)) (y2 : (0 ≤ J (c + 5) b ∧ J (c + 5) b < 20)) (x1 : zB (J (a + 15 + 2 * b + 1) (hch J a b))) (x2 : zB (J (c + 15 + 2 * b + 1) (hch J c b))) : zMi l G yX4_hasSameButtons cX4_hasSameButtons 3 .boolean rmX4_hasSameButtons [.ref (gx_ad G a), .ref (gx_ad G c), .int (zI (b : Int))] J (fun r J' => r = bz (J (a + 15 + 2 * b) 2 = J (c + 15 + 2 * b) 2 ∧ J (a + 15 + 2 * b + 1) (hch J a b) = J (c + 15 + 2 * b + 1) (hch J c b)) ∧ J' = J) := by
  refine gx_mi hG (by decide) (Nat.le_of_ble_eq_true rfl) (fun X hla B Rt => ?_)
  subst hla
  have B : gx_B G X RX4 cX4_hasSameButtons 3 rmX4_hasSameButtons 76 := B
  show gx_WG G X 3 (zh J) 0 [(0, .ref (gx_ad G a)), (1, .ref (gx_ad G c)), (2, .int (zI (b : Int)))] []
  refine gx_aload_n B dX4_hasSameButtons_0 rfl rfl ?_
  refine gx_getr (t := (a + 4)) B fl_X4_20 (kHand ha) (bHand ha) (rHand1 ha) dX4_hasSameButtons_1 ?_
  refine gx_iload_n B dX4_hasSameButtons_4 rfl rfl ?_
  refine z_aald b (a + 15 + 2 * b) B (kHg ha) (cHg ha) rfl hb (by decide) (rHg ha hb) dX4_hasSameButtons_5 ?_
  refine z_geti B fl_X4_61 (kGoods (gdH ha hb)) (bGoods (gdH ha hb)) (zGoods2 (gdH ha hb)) dX4_hasSameButtons_6 ?_
  refine gx_aload_n B dX4_hasSameButtons_9 rfl rfl ?_
  refine gx_getr (t := (c + 4)) B fl_X4_20 (kHand hc) (bHand hc) (rHand1 hc) dX4_hasSameButtons_10 ?_
  refine gx_iload_n B dX4_hasSameButtons_13 rfl rfl ?_
  refine z_aald b (c + 15 + 2 * b) B (kHg hc) (cHg hc) rfl hb (by decide) (rHg hc hb) dX4_hasSameButtons_14 ?_
  refine z_geti B fl_X4_61 (kGoods (gdH hc hb)) (bGoods (gdH hc hb)) (zGoods2 (gdH hc hb)) dX4_hasSameButtons_15 ?_
  refine z_icmp_ne (tgt := 60) B dX4_hasSameButtons_18 z1 z2 (by decide) (fun c18 => ?_) (fun c18 => ?_)
  · refine z_iconst B dX4_hasSameButtons_60 ?_
    refine z_iretz B Rt dX4_hasSameButtons_61 (by decide) ?_
    exact ⟨by first | exact (bz_1.mpr ⟨c18, c53⟩).symm | exact (bz_0.mpr (fun q => c53 q.2)).symm | exact (bz_0.mpr (fun q => c18 q.1)).symm, rfl⟩
  · refine gx_aload_n B dX4_hasSameButtons_21 rfl rfl ?_
    refine gx_getr (t := (a + 4)) B fl_X4_20 (kHand ha) (bHand ha) (rHand1 ha) dX4_hasSameButtons_22 ?_
    refine gx_iload_n B dX4_hasSameButtons_25 rfl rfl ?_
    refine z_aald b (a + 15 + 2 * b) B (kHg ha) (cHg ha) rfl (by omega) (by decide) (rHg ha (by omega)) dX4_hasSameButtons_26 ?_
    refine gx_getr (t := ((a + 15 + 2 * b) + 1)) B fl_X4_99 (kGoods (gdH ha (show b < 8 by omega))) (bGoods (gdH ha (show b < 8 by omega))) (rGoods0 (gdH ha (show b < 8 by omega))) dX4_hasSameButtons_27 ?_
    refine gx_aload_n B dX4_hasSameButtons_30 rfl rfl ?_
    refine gx_getr (t := (a + 5)) B fl_X4_24 (kHand ha) (bHand ha) (rHand2 ha) dX4_hasSameButtons_31 ?_
    refine gx_iload_n B dX4_hasSameButtons_34 rfl rfl ?_
    refine z_iald b B (kHc ha) (cHc ha) rfl hb (by decide) dX4_hasSameButtons_35 ?_
    rw [show J (a + 5) b = (hch J a b : Int) from (by unfold hch; omega)]
    refine z_iald (hch J a b) B (aGoods (gdH ha (show b < 8 by omega))) (cGoods (gdH ha (show b < 8 by omega))) rfl (show hch J a b < 20 by unfold hch; omega) (by decide) dX4_hasSameButtons_36 ?_
    refine gx_aload_n B dX4_hasSameButtons_37 rfl rfl ?_
    refine gx_getr (t := (c + 4)) B fl_X4_20 (kHand hc) (bHand hc) (rHand1 hc) dX4_hasSameButtons_38 ?_
    refine gx_iload_n B dX4_hasSameButtons_41 rfl rfl ?_
    refine z_aald b (c + 15 + 2 * b) B (kHg hc) (cHg hc) rfl (by omega) (by decide) (rHg hc (by omega)) dX4_hasSameButtons_42 ?_
    refine gx_getr (t := ((c + 15 + 2 * b) + 1)) B fl_X4_99 (kGoods (gdH hc (show b < 8 by omega))) (bGoods (gdH hc (show b < 8 by omega))) (rGoods0 (gdH hc (show b < 8 by omega))) dX4_hasSameButtons_43 ?_
    refine gx_aload_n B dX4_hasSameButtons_46 rfl rfl ?_
    refine gx_getr (t := (c + 5)) B fl_X4_24 (kHand hc) (bHand hc) (rHand2 hc) dX4_hasSameButtons_47 ?_
    refine gx_iload_n B dX4_hasSameButtons_50 rfl rfl ?_
    refine z_iald b B (kHc hc) (cHc hc) rfl hb (by decide) dX4_hasSameButtons_51 ?_
    rw [show J (c + 5) b = (hch J c b : Int) from (by unfold hch; omega)]
    refine z_iald (hch J c b) B (aGoods (gdH hc (show b < 8 by omega))) (cGoods (gdH hc (show b < 8 by omega))) rfl (show hch J c b < 20 by unfold hch; omega) (by decide) dX4_hasSameButtons_52 ?_
    refine z_icmp_ne (tgt := 60) B dX4_hasSameButtons_53 x1 x2 (by decide) (fun c53 => ?_) (fun c53 => ?_)
    · refine z_iconst B dX4_hasSameButtons_60 ?_
      refine z_iretz B Rt dX4_hasSameButtons_61 (by decide) ?_
      exact ⟨by first | exact (bz_1.mpr ⟨c18, c53⟩).symm | exact (bz_0.mpr (fun q => c53 q.2)).symm | exact (bz_0.mpr (fun q => c18 q.1)).symm, rfl⟩
    · refine z_iconst B dX4_hasSameButtons_56 ?_
      refine gx_goto (tgt := 61) B dX4_hasSameButtons_57 (by decide) ?_
      refine z_iretz B Rt dX4_hasSameButtons_61 (by decide) ?_
      exact ⟨by first | exact (bz_1.mpr ⟨c18, c53⟩).symm | exact (bz_0.mpr (fun q => c53 q.2)).symm | exact (bz_0.mpr (fun q => c18 q.1)).symm, rfl⟩

theorem lplackOfAll {G : gx_G} {X : gx_X} (hG : gx_OK G 76) (B : gx_B G X RX4 cX4_lackOfAll 4 rmX4_lackOfAll 76) {a n : Nat} (ha : isHand a) {J : zJ} (hn : n ≤ 8) (Rt : gx_Ri G X .int (zpi (fun r J' => r = sumN (fun b => J (a + 15 + 2 * b) 3) n ∧ J' = J))) : ∀ i : Nat, i ≤ n → gx_WG G X 4 (zh J) 4 [(0, .ref (gx_ad G a)), (1, .int (zI (n : Int))), (2, .int (zI (sumN (fun b => J (a + 15 + 2 * b) 3) i))), (3, .int (zI (i : Int)))] [] := by
  refine up_ind (fun i hi ih => ?_)
  refine gx_iload_n B dX4_lackOfAll_4 rfl rfl ?_
  refine gx_iload_n B dX4_lackOfAll_5 rfl rfl ?_
  refine z_icmp_ge (tgt := 27) B dX4_lackOfAll_6 ⟨by omega, by omega⟩ ⟨by omega, by omega⟩ (by decide) (fun c6 => ?_) (fun c6 => ?_)
  · refine gx_iload_n B dX4_lackOfAll_27 rfl rfl ?_
    refine z_ireti B Rt dX4_lackOfAll_28 ?_
    refine ⟨?_, rfl⟩
    rw [show i = n by omega]
  · refine gx_iload_n B dX4_lackOfAll_9 rfl rfl ?_
    refine gx_aload_n B dX4_lackOfAll_10 rfl rfl ?_
    refine gx_getr (t := (a + 4)) B fl_X4_20 (kHand ha) (bHand ha) (rHand1 ha) dX4_lackOfAll_11 ?_
    refine gx_iload_n B dX4_lackOfAll_14 rfl rfl ?_
    refine z_aald i (a + 15 + 2 * i) B (kHg ha) (cHg ha) rfl (show i < 8 by omega) (by decide) (rHg ha (show i < 8 by omega)) dX4_lackOfAll_15 ?_
    refine z_geti B fl_X4_102 (kGoods (gdH ha (show i < 8 by omega))) (bGoods (gdH ha (show i < 8 by omega))) (zGoods3 (gdH ha (show i < 8 by omega))) dX4_lackOfAll_16 ?_
    refine z_iadd B dX4_lackOfAll_19 ?_
    refine z_istore_n (fun v => [(0, .ref (gx_ad G a)), (1, .int (zI (n : Int))), (2, .int (zI v)), (3, .int (zI (i : Int)))]) B dX4_lackOfAll_20 rfl (by decide) rfl (fun _ => rfl) (fun v2 hv2 => ?_)
    obtain rfl : v2 = sumN (fun b => J (a + 15 + 2 * b) 3) (i + 1) := by rw [hv2]; rfl
    refine z_iinc (fun v => [(0, .ref (gx_ad G a)), (1, .int (zI (n : Int))), (2, .int (zI (sumN (fun b => J (a + 15 + 2 * b) 3) (i + 1)))), (3, .int (zI v))]) B dX4_lackOfAll_21 rfl (by decide) rfl (fun _ => rfl) (fun v3 hv3 => ?_)
    obtain rfl : v3 = ((i + 1 : Nat) : Int) := by omega
    refine gx_goto (tgt := 4) B dX4_lackOfAll_24 (by decide) ?_
    exact ih (by omega)

theorem mX4_lackOfAll {l : Launch} {G : gx_G} (hG : gx_OK G 76) {a n : Nat} (ha : isHand a) (J : zJ) (hn : n ≤ 8) : zMi l G yX4_lackOfAll cX4_lackOfAll 4 .int rmX4_lackOfAll [.ref (gx_ad G a), .int (zI (n : Int))] J (fun r J' => r = sumN (fun b => J (a + 15 + 2 * b) 3) n ∧ J' = J) := by
  refine gx_mi hG (by decide) (Nat.le_of_ble_eq_true rfl) (fun X hla B Rt => ?_)
  subst hla
  have B : gx_B G X RX4 cX4_lackOfAll 4 rmX4_lackOfAll 76 := B
  show gx_WG G X 4 (zh J) 0 [(0, .ref (gx_ad G a)), (1, .int (zI (n : Int)))] []
  refine z_iconst B dX4_lackOfAll_0 ?_
  refine z_istore_n (fun v => [(0, .ref (gx_ad G a)), (1, .int (zI (n : Int))), (2, .int (zI v))]) B dX4_lackOfAll_1 rfl (by decide) rfl (fun _ => rfl) (fun v2 hv2 => ?_)
  obtain rfl : v2 = sumN (fun b => J (a + 15 + 2 * b) 3) 0 := by rw [hv2]; rfl
  refine z_iconst B dX4_lackOfAll_2 ?_
  refine z_istore_n (fun v => [(0, .ref (gx_ad G a)), (1, .int (zI (n : Int))), (2, .int (zI (sumN (fun b => J (a + 15 + 2 * b) 3) 0))), (3, .int (zI v))]) B dX4_lackOfAll_3 rfl (by decide) rfl (fun _ => rfl) (fun v3 hv3 => ?_)
  obtain rfl : v3 = ((0 : Nat) : Int) := by omega
  exact lplackOfAll hG B ha hn Rt 0 (by omega)

theorem lpextraOfAll {G : gx_G} {X : gx_X} (hG : gx_OK G 76) (B : gx_B G X RX4 cX4_extraOfAll 4 rmX4_extraOfAll 76) {a n : Nat} (ha : isHand a) {J : zJ} (hn : n ≤ 8) (Rt : gx_Ri G X .int (zpi (fun r J' => r = sumN (fun b => J (a + 15 + 2 * b) 4) n ∧ J' = J))) : ∀ i : Nat, i ≤ n → gx_WG G X 4 (zh J) 4 [(0, .ref (gx_ad G a)), (1, .int (zI (n : Int))), (2, .int (zI (sumN (fun b => J (a + 15 + 2 * b) 4) i))), (3, .int (zI (i : Int)))] [] := by
  refine up_ind (fun i hi ih => ?_)
  refine gx_iload_n B dX4_extraOfAll_4 rfl rfl ?_
  refine gx_iload_n B dX4_extraOfAll_5 rfl rfl ?_
  refine z_icmp_ge (tgt := 27) B dX4_extraOfAll_6 ⟨by omega, by omega⟩ ⟨by omega, by omega⟩ (by decide) (fun c6 => ?_) (fun c6 => ?_)
  · refine gx_iload_n B dX4_extraOfAll_27 rfl rfl ?_
    refine z_ireti B Rt dX4_extraOfAll_28 ?_
    refine ⟨?_, rfl⟩
    rw [show i = n by omega]
  · refine gx_iload_n B dX4_extraOfAll_9 rfl rfl ?_
    refine gx_aload_n B dX4_extraOfAll_10 rfl rfl ?_
    refine gx_getr (t := (a + 4)) B fl_X4_20 (kHand ha) (bHand ha) (rHand1 ha) dX4_extraOfAll_11 ?_
    refine gx_iload_n B dX4_extraOfAll_14 rfl rfl ?_
    refine z_aald i (a + 15 + 2 * i) B (kHg ha) (cHg ha) rfl (show i < 8 by omega) (by decide) (rHg ha (show i < 8 by omega)) dX4_extraOfAll_15 ?_
    refine z_geti B fl_X4_105 (kGoods (gdH ha (show i < 8 by omega))) (bGoods (gdH ha (show i < 8 by omega))) (zGoods4 (gdH ha (show i < 8 by omega))) dX4_extraOfAll_16 ?_
    refine z_iadd B dX4_extraOfAll_19 ?_
    refine z_istore_n (fun v => [(0, .ref (gx_ad G a)), (1, .int (zI (n : Int))), (2, .int (zI v)), (3, .int (zI (i : Int)))]) B dX4_extraOfAll_20 rfl (by decide) rfl (fun _ => rfl) (fun v2 hv2 => ?_)
    obtain rfl : v2 = sumN (fun b => J (a + 15 + 2 * b) 4) (i + 1) := by rw [hv2]; rfl
    refine z_iinc (fun v => [(0, .ref (gx_ad G a)), (1, .int (zI (n : Int))), (2, .int (zI (sumN (fun b => J (a + 15 + 2 * b) 4) (i + 1)))), (3, .int (zI v))]) B dX4_extraOfAll_21 rfl (by decide) rfl (fun _ => rfl) (fun v3 hv3 => ?_)
    obtain rfl : v3 = ((i + 1 : Nat) : Int) := by omega
    refine gx_goto (tgt := 4) B dX4_extraOfAll_24 (by decide) ?_
    exact ih (by omega)

theorem mX4_extraOfAll {l : Launch} {G : gx_G} (hG : gx_OK G 76) {a n : Nat} (ha : isHand a) (J : zJ) (hn : n ≤ 8) : zMi l G yX4_extraOfAll cX4_extraOfAll 4 .int rmX4_extraOfAll [.ref (gx_ad G a), .int (zI (n : Int))] J (fun r J' => r = sumN (fun b => J (a + 15 + 2 * b) 4) n ∧ J' = J) := by
  refine gx_mi hG (by decide) (Nat.le_of_ble_eq_true rfl) (fun X hla B Rt => ?_)
  subst hla
  have B : gx_B G X RX4 cX4_extraOfAll 4 rmX4_extraOfAll 76 := B
  show gx_WG G X 4 (zh J) 0 [(0, .ref (gx_ad G a)), (1, .int (zI (n : Int)))] []
  refine z_iconst B dX4_extraOfAll_0 ?_
  refine z_istore_n (fun v => [(0, .ref (gx_ad G a)), (1, .int (zI (n : Int))), (2, .int (zI v))]) B dX4_extraOfAll_1 rfl (by decide) rfl (fun _ => rfl) (fun v2 hv2 => ?_)
  obtain rfl : v2 = sumN (fun b => J (a + 15 + 2 * b) 4) 0 := by rw [hv2]; rfl
  refine z_iconst B dX4_extraOfAll_2 ?_
  refine z_istore_n (fun v => [(0, .ref (gx_ad G a)), (1, .int (zI (n : Int))), (2, .int (zI (sumN (fun b => J (a + 15 + 2 * b) 4) 0))), (3, .int (zI v))]) B dX4_extraOfAll_3 rfl (by decide) rfl (fun _ => rfl) (fun v3 hv3 => ?_)
  obtain rfl : v3 = ((0 : Nat) : Int) := by omega
  exact lpextraOfAll hG B ha hn Rt 0 (by omega)

theorem lpbuttonsOfAll {G : gx_G} {X : gx_X} (hG : gx_OK G 76) (B : gx_B G X RX4 cX4_buttonsOfAll 4 rmX4_buttonsOfAll 76) {a n : Nat} (ha : isHand a) {J : zJ} (hn : n ≤ 8) (Rt : gx_Ri G X .int (zpi (fun r J' => r = sumN (fun b => J (a + 15 + 2 * b) 2) n ∧ J' = J))) : ∀ i : Nat, i ≤ n → gx_WG G X 4 (zh J) 4 [(0, .ref (gx_ad G a)), (1, .int (zI (n : Int))), (2, .int (zI (sumN (fun b => J (a + 15 + 2 * b) 2) i))), (3, .int (zI (i : Int)))] [] := by
  refine up_ind (fun i hi ih => ?_)
  refine gx_iload_n B dX4_buttonsOfAll_4 rfl rfl ?_
  refine gx_iload_n B dX4_buttonsOfAll_5 rfl rfl ?_
  refine z_icmp_ge (tgt := 27) B dX4_buttonsOfAll_6 ⟨by omega, by omega⟩ ⟨by omega, by omega⟩ (by decide) (fun c6 => ?_) (fun c6 => ?_)
  · refine gx_iload_n B dX4_buttonsOfAll_27 rfl rfl ?_
    refine z_ireti B Rt dX4_buttonsOfAll_28 ?_
    refine ⟨?_, rfl⟩
    rw [show i = n by omega]
  · refine gx_iload_n B dX4_buttonsOfAll_9 rfl rfl ?_
    refine gx_aload_n B dX4_buttonsOfAll_10 rfl rfl ?_
    refine gx_getr (t := (a + 4)) B fl_X4_20 (kHand ha) (bHand ha) (rHand1 ha) dX4_buttonsOfAll_11 ?_
    refine gx_iload_n B dX4_buttonsOfAll_14 rfl rfl ?_
    refine z_aald i (a + 15 + 2 * i) B (kHg ha) (cHg ha) rfl (show i < 8 by omega) (by decide) (rHg ha (show i < 8 by omega)) dX4_buttonsOfAll_15 ?_
    refine z_geti B fl_X4_61 (kGoods (gdH ha (show i < 8 by omega))) (bGoods (gdH ha (show i < 8 by omega))) (zGoods2 (gdH ha (show i < 8 by omega))) dX4_buttonsOfAll_16 ?_
    refine z_iadd B dX4_buttonsOfAll_19 ?_
    refine z_istore_n (fun v => [(0, .ref (gx_ad G a)), (1, .int (zI (n : Int))), (2, .int (zI v)), (3, .int (zI (i : Int)))]) B dX4_buttonsOfAll_20 rfl (by decide) rfl (fun _ => rfl) (fun v2 hv2 => ?_)
    obtain rfl : v2 = sumN (fun b => J (a + 15 + 2 * b) 2) (i + 1) := by rw [hv2]; rfl
    refine z_iinc (fun v => [(0, .ref (gx_ad G a)), (1, .int (zI (n : Int))), (2, .int (zI (sumN (fun b => J (a + 15 + 2 * b) 2) (i + 1)))), (3, .int (zI v))]) B dX4_buttonsOfAll_21 rfl (by decide) rfl (fun _ => rfl) (fun v3 hv3 => ?_)
    obtain rfl : v3 = ((i + 1 : Nat) : Int) := by omega
    refine gx_goto (tgt := 4) B dX4_buttonsOfAll_24 (by decide) ?_
    exact ih (by omega)

theorem mX4_buttonsOfAll {l : Launch} {G : gx_G} (hG : gx_OK G 76) {a n : Nat} (ha : isHand a) (J : zJ) (hn : n ≤ 8) : zMi l G yX4_buttonsOfAll cX4_buttonsOfAll 4 .int rmX4_buttonsOfAll [.ref (gx_ad G a), .int (zI (n : Int))] J (fun r J' => r = sumN (fun b => J (a + 15 + 2 * b) 2) n ∧ J' = J) := by
  refine gx_mi hG (by decide) (Nat.le_of_ble_eq_true rfl) (fun X hla B Rt => ?_)
  subst hla
  have B : gx_B G X RX4 cX4_buttonsOfAll 4 rmX4_buttonsOfAll 76 := B
  show gx_WG G X 4 (zh J) 0 [(0, .ref (gx_ad G a)), (1, .int (zI (n : Int)))] []
  refine z_iconst B dX4_buttonsOfAll_0 ?_
  refine z_istore_n (fun v => [(0, .ref (gx_ad G a)), (1, .int (zI (n : Int))), (2, .int (zI v))]) B dX4_buttonsOfAll_1 rfl (by decide) rfl (fun _ => rfl) (fun v2 hv2 => ?_)
  obtain rfl : v2 = sumN (fun b => J (a + 15 + 2 * b) 2) 0 := by rw [hv2]; rfl
  refine z_iconst B dX4_buttonsOfAll_2 ?_
  refine z_istore_n (fun v => [(0, .ref (gx_ad G a)), (1, .int (zI (n : Int))), (2, .int (zI (sumN (fun b => J (a + 15 + 2 * b) 2) 0))), (3, .int (zI v))]) B dX4_buttonsOfAll_3 rfl (by decide) rfl (fun _ => rfl) (fun v3 hv3 => ?_)
  obtain rfl : v3 = ((0 : Nat) : Int) := by omega
  exact lpbuttonsOfAll hG B ha hn Rt 0 (by omega)


/-- a desk's beats are as they may be -/
def DPre (J : zJ) (d n : Nat) : Prop := J d 5 = (n : Int) ∧ n ≤ 8 ∧ ∀ b, b < n → (0 ≤ J (d + 1) b ∧ J (d + 1) b ≤ 4095) ∧ (-1 ≤ J (d + 2) b ∧ J (d + 2) b ≤ 11)
/-- a hand has learned: its board, the good settings of the first n beats -/
def Lrn (J : zJ) (a : Nat) (base rows : Int) (n : Nat) (ch lo : Nat → Int) : Prop := Tuned J (a + 1) base rows ∧ ∀ b, b < n → GoodsAt J (a + 15 + 2 * b) (ch b) base rows (lo b)
abbrev NFr (J J' : zJ) (a : Nat) : Prop := ∀ x k, ¬ (a + 1 ≤ x ∧ x ≤ a + 3) → ¬ (a + 15 ≤ x ∧ x ≤ a + 30) → J' x k = J x k
theorem hd_ne {a d : Nat} (ha : isHand a) (hd : isDesk d) : d + 4 < a ∧ 0 < d := by
  rcases ha with rfl | rfl <;> rcases hd with rfl | rfl <;> omega
theorem GoodsAt.keep {J J' : zJ} {g : Nat} {w base rows low : Int} (h : GoodsAt J g w base rows low) (e : ∀ k, J' g k = J g k) (e1 : ∀ k, J' (g + 1) k = J (g + 1) k) : GoodsAt J' g w base rows low := by
  obtain ⟨⟨h1, h2⟩, h3, h4, h5⟩ := h
  exact ⟨⟨by rw [e]; exact h1, fun k hk => by rw [e1]; exact h2 k hk⟩, by rw [e]; exact h3, by rw [e]; exact h4, by rw [e]; exact h5⟩
theorem Tuned.keep {J J' : zJ} {d : Nat} {base rows : Int} (h : Tuned J d base rows) (e : J' d 2 = J d 2) (e1 : ∀ k, J' (d + 1) k = J (d + 1) k) (e2 : ∀ k, J' (d + 2) k = J (d + 2) k) : Tuned J' d base rows := by
  obtain ⟨h1, h2, h3⟩ := h
  exact ⟨fun a ha => by rw [e1]; exact h1 a ha, by rw [e]; exact h2, fun i hi => by rw [e2]; exact h3 i hi⟩

theorem lpLrn {G : gx_G} {X : gx_X} (hG : gx_OK G 76) (B : gx_B G X RX4 cX4_learn 5 rmX4_learn 76) {a d n : Nat} (ha : isHand a) (hdk : isDesk d) {J0 : zJ} {base rows : Int} (hb0 : 0 ≤ base) (hb1 : base < 12) (hD : DPre J0 d n) (Rt : gx_Rv G X (zpv (fun J' => Lrn J' a base rows n (J0 (d + 1)) (J0 (d + 2)) ∧ NFr J0 J' a))) : ∀ i : Nat, i ≤ n → ∀ (J : zJ), Lrn J a base rows i (J0 (d + 1)) (J0 (d + 2)) → NFr J0 J a → gx_WG G X 5 (zh J) 12 [(0, .ref (gx_ad G a)), (1, .int (zI base)), (2, .int (zI rows)), (3, .ref (gx_ad G d)), (4, .int (zI (i : Int)))] [] := by
  refine up_ind (fun i hi ih => ?_)
  intro J hL hfr
  have h8 := hD.2.1
  have hne := hd_ne ha hdk
  have e5 : J d 5 = (n : Int) := by rw [hfr _ _ (by omega) (by omega)]; exact hD.1
  have ec : ∀ k, J (d + 1) k = J0 (d + 1) k := fun k => hfr _ _ (by omega) (by omega)
  have el : ∀ k, J (d + 2) k = J0 (d + 2) k := fun k => hfr _ _ (by omega) (by omega)
  refine gx_iload B dX4_learn_12 rfl ?_
  refine gx_aload_n B dX4_learn_14 rfl rfl ?_
  refine z_geti B fl_X4_42 (kDesk hdk) (bDesk hdk) (zDesk5 hdk) dX4_learn_15 ?_
  refine z_icmp_ge (tgt := 55) B dX4_learn_18 ⟨by omega, by omega⟩ ⟨by omega, by omega⟩ (by decide) (fun c18 => ?_) (fun c18 => ?_)
  · refine z_ret B Rt dX4_learn_55 ?_
    obtain rfl : i = n := by omega
    exact ⟨hL, hfr⟩
  · have hdi : (0 ≤ J (d + 1) i ∧ J (d + 1) i ≤ 4095) ∧ (-1 ≤ J (d + 2) i ∧ J (d + 2) i ≤ 11) := by rw [ec, el]; exact hD.2.2 i (by omega)
    refine gx_aload_n B dX4_learn_21 rfl rfl ?_
    refine gx_getr (t := (a + 4)) B fl_X4_20 (kHand ha) (bHand ha) (rHand1 ha) dX4_learn_22 ?_
    refine gx_iload B dX4_learn_25 rfl ?_
    refine z_aald i (a + 15 + 2 * i) B (kHg ha) (cHg ha) rfl (show i < 8 by omega) (by decide) (rHg ha (show i < 8 by omega)) dX4_learn_27 ?_
    refine gx_aload_n B dX4_learn_28 rfl rfl ?_
    refine gx_getr (t := (a + 1)) B fl_X4_12 (kHand ha) (bHand ha) (rHand0 ha) dX4_learn_29 ?_
    refine gx_aload_n B dX4_learn_32 rfl rfl ?_
    refine gx_getr (t := (d + 1)) B fl_X4_47 (kDesk hdk) (bDesk hdk) (rDesk6 hdk) dX4_learn_33 ?_
    refine gx_iload B dX4_learn_36 rfl ?_
    refine z_iald i B (aDesk1 hdk) (cDesk1 hdk) rfl (show i < 8 by omega) (by decide) dX4_learn_38 ?_
    refine gx_aload_n B dX4_learn_39 rfl rfl ?_
    refine gx_getr (t := (d + 2)) B fl_X4_50 (kDesk hdk) (bDesk hdk) (rDesk7 hdk) dX4_learn_40 ?_
    refine gx_iload B dX4_learn_43 rfl ?_
    refine z_iald i B (aDesk2 hdk) (cDesk2 hdk) rfl (show i < 8 by omega) (by decide) dX4_learn_45 ?_
    refine z_callVv [.ref (gx_ad G (a + 1)), .int (zI (J (d + 1) i)), .int (zI (J (d + 2) i))] B lv_X4_53 (mX3_find hG (gdH ha (show i < 8 by omega)) (bdH ha) J (base := base) (rows := rows) (chord := J (d + 1) i) (low := J (d + 2) i) hb0 hb1 hdi.1.1 hdi.1.2 hdi.2.1 hdi.2.2 hL.1) (kGoods (gdH ha (show i < 8 by omega))) (bGoods (gdH ha (show i < 8 by omega))) rfl rfl (Nat.le_of_ble_eq_true rfl) (by decide) (by decide) dX4_learn_46 (fun J1 hJ1 => ?_)
    refine z_iinc (fun v => [(0, .ref (gx_ad G a)), (1, .int (zI base)), (2, .int (zI rows)), (3, .ref (gx_ad G d)), (4, .int (zI v))]) B dX4_learn_49 rfl (by decide) rfl (fun _ => rfl) (fun v4 hv4 => ?_)
    obtain rfl : v4 = ((i + 1 : Nat) : Int) := by omega
    refine gx_goto (tgt := 12) B dX4_learn_52 (by decide) ?_
    refine ih (by omega) J1 ⟨hL.1.keep (hJ1.2 _ _ (by omega) (by omega)) (fun k => hJ1.2 _ _ (by omega) (by omega)) (fun k => hJ1.2 _ _ (by omega) (by omega)), fun b hb => ?_⟩ (fun x k h1 h2 => by rw [hJ1.2 x k (by omega) (by omega)]; exact hfr x k h1 h2)
    by_cases e : b = i
    · rw [e, ← ec, ← el]; exact hJ1.1
    · exact (hL.2 b (by omega)).keep (fun k => hJ1.2 _ _ (by omega) (by omega)) (fun k => hJ1.2 _ _ (by omega) (by omega))

theorem mX4_learn {l : Launch} {G : gx_G} (hG : gx_OK G 76) {a d n : Nat} (ha : isHand a) (hdk : isDesk d) (J : zJ) {base rows : Int} (hb0 : 0 ≤ base) (hb1 : base < 12) (hD : DPre J d n) : zMv l G yX4_learn cX4_learn 5 rmX4_learn [.ref (gx_ad G a), .int (zI base), .int (zI rows), .ref (gx_ad G d)] J (fun J' => Lrn J' a base rows n (J (d + 1)) (J (d + 2)) ∧ NFr J J' a) := by
  refine gx_mv hG (by decide) (Nat.le_of_ble_eq_true rfl) (fun X hla B Rt => ?_)
  subst hla
  have B : gx_B G X RX4 cX4_learn 5 rmX4_learn 76 := B
  show gx_WG G X 5 (zh J) 0 [(0, .ref (gx_ad G a)), (1, .int (zI base)), (2, .int (zI rows)), (3, .ref (gx_ad G d))] []
  refine gx_aload_n B dX4_learn_0 rfl rfl ?_
  refine gx_getr (t := (a + 1)) B fl_X4_12 (kHand ha) (bHand ha) (rHand0 ha) dX4_learn_1 ?_
  refine gx_iload_n B dX4_learn_4 rfl rfl ?_
  refine gx_iload_n B dX4_learn_5 rfl rfl ?_
  refine z_callVv [.int (zI base), .int (zI rows)] B lv_X4_38 (mX1_tune hG (bdH ha) J (base := base) (rows := rows) hb0 hb1) (kBoard (bdH ha)) (bBoard (bdH ha)) rfl rfl (Nat.le_of_ble_eq_true rfl) (by decide) (by decide) dX4_learn_6 (fun J1 hJ1 => ?_)
  refine z_iconst B dX4_learn_9 ?_
  refine z_istore (fun v => [(0, .ref (gx_ad G a)), (1, .int (zI base)), (2, .int (zI rows)), (3, .ref (gx_ad G d)), (4, .int (zI v))]) B dX4_learn_10 (by decide) rfl (fun _ => rfl) (fun v4 hv4 => ?_)
  obtain rfl : v4 = ((0 : Nat) : Int) := by omega
  exact lpLrn hG B ha hdk hb0 hb1 hD Rt 0 (by omega) J1 ⟨hJ1.1, fun b hb => by omega⟩ (fun x k h1 h2 => hJ1.2 x k (by omega) (by omega) (by omega))
end
section

def gz (n t b : Int) : Int := zand (zshr t (n - 1 - b)) 1
theorem gz01 (n t b : Int) : gz n t b = 0 ∨ gz n t b = 1 := zand1_01 _
abbrev trn (n t : Int) (b : Nat) : Prop := 0 < b ∧ ¬ gz n t b = gz n t ((b : Int) - 1)
def mvZ (n t : Int) (u : Nat → Int) (b : Nat) : Int := if gz n t b = 0 then u b else -(u b)
def airN (n t : Int) (u : Nat → Int) (st : Int) : Nat → Int
  | 0 => st
  | b + 1 => airN n t u st b + mvZ n t u b
def pkN (n t : Int) (u : Nat → Int) (st : Int) : Nat → Int
  | 0 => st
  | b + 1 => max (pkN n t u st b) (airN n t u st (b + 1))
def tied (n t : Int) (mk : Nat → Int) (N : Nat) : Prop := ∃ b, b < N ∧ mk b = 3 ∧ trn n t b
def prc (n t : Int) (mk : Nat → Int) (b : Nat) : Int := if trn n t b then z_turnN (mk b).toNat else 0
def tct (n t : Int) (b : Nat) : Int := if trn n t b then 1 else 0
theorem turn_le (j : Nat) : 0 ≤ z_turnN j ∧ z_turnN j ≤ 3 := by
  match j with
  | 0 => decide
  | 1 => decide
  | 2 => decide
  | n + 3 => exact ⟨by show (0 : Int) ≤ (0 : Int32).toInt; decide, by show (0 : Int32).toInt ≤ 3; decide⟩
theorem prc_le (n t : Int) (mk : Nat → Int) (b : Nat) : 0 ≤ prc n t mk b ∧ prc n t mk b ≤ 3 := by
  have := turn_le (mk b).toNat
  unfold prc
  split <;> omega
theorem price_le (n t : Int) (mk : Nat → Int) (N : Nat) : 0 ≤ sumN (prc n t mk) N ∧ sumN (prc n t mk) N ≤ 3 * N := sumN_le (by omega) (fun k _ => prc_le n t mk k)
theorem mv_le {n t : Int} {u : Nat → Int} {b : Nat} (h : 0 ≤ u b ∧ u b ≤ 300) : -300 ≤ mvZ n t u b ∧ mvZ n t u b ≤ 300 := by unfold mvZ; split <;> omega
theorem air_le {n t : Int} {u : Nat → Int} {st : Int} {N : Nat} (hu : ∀ b, b < N → 0 ≤ u b ∧ u b ≤ 300) (h0 : 0 ≤ st) (h1 : st ≤ 400) : ∀ b : Nat, b ≤ N → -(300 * (b : Int)) ≤ airN n t u st b ∧ airN n t u st b ≤ 400 + 300 * b
  | 0, _ => by simp only [airN]; omega
  | b + 1, h => by
    have h2 := air_le (n := n) (t := t) hu h0 h1 b (by omega)
    have h3 := mv_le (n := n) (t := t) (hu b (by omega))
    unfold airN
    omega
theorem pk_le2 {n t : Int} {u : Nat → Int} {st : Int} {N : Nat} (hu : ∀ b, b < N → 0 ≤ u b ∧ u b ≤ 300) (h0 : 0 ≤ st) (h1 : st ≤ 400) : ∀ b : Nat, b ≤ N → st ≤ pkN n t u st b ∧ pkN n t u st b ≤ 400 + 300 * b
  | 0, _ => by simp only [pkN]; omega
  | b + 1, h => by
    have h2 := pk_le2 (n := n) (t := t) hu h0 h1 b (by omega)
    have h3 := air_le (n := n) (t := t) hu h0 h1 (b + 1) h
    unfold pkN
    omega
def BPre (J : zJ) (N : Nat) : Prop := J 11 2 = (N : Int) ∧ N ≤ 8 ∧ ∀ b, b < N → (0 ≤ J 12 b ∧ J 12 b ≤ 300) ∧ (0 ≤ J 13 b ∧ J 13 b ≤ 3)

theorem mX0_goesOut {l : Launch} {G : gx_G} (hG : gx_OK G 76) (J : zJ) {t b : Int} : zMi l G yX0_goesOut cX0_goesOut 3 .boolean rmX0_goesOut [.ref (gx_ad G 11), .int (zI t), .int (zI b)] J (fun r J' => r = bz (gz (J 11 2) t b = 0) ∧ J' = J) := by
  refine gx_mi hG (by decide) (Nat.le_of_ble_eq_true rfl) (fun X hla B Rt => ?_)
  subst hla
  have B : gx_B G X RX0 cX0_goesOut 3 rmX0_goesOut 76 := B
  show gx_WG G X 3 (zh J) 0 [(0, .ref (gx_ad G 11)), (1, .int (zI t)), (2, .int (zI b))] []
  refine gx_iload_n B dX0_goesOut_0 rfl rfl ?_
  refine gx_aload_n B dX0_goesOut_1 rfl rfl ?_
  refine z_geti B fl_X0_18 rfl (by decide) rfl dX0_goesOut_2 ?_
  refine z_iconst B dX0_goesOut_5 ?_
  refine z_isub B dX0_goesOut_6 ?_
  refine gx_iload_n B dX0_goesOut_7 rfl rfl ?_
  refine z_isub B dX0_goesOut_8 ?_
  refine z_ishr B dX0_goesOut_9 ?_
  refine z_iconst B dX0_goesOut_10 ?_
  refine z_iand B dX0_goesOut_11 ?_
  refine z_if_ne (tgt := 19) B dX0_goesOut_12 (zandB _ _) (by decide) (fun c12 => ?_) (fun c12 => ?_)
  · refine z_iconst B dX0_goesOut_19 ?_
    refine z_iretz B Rt dX0_goesOut_20 (by decide) ?_
    exact ⟨by first | exact (bz_1.mpr c12).symm | exact (bz_0.mpr c12).symm, rfl⟩
  · refine z_iconst B dX0_goesOut_15 ?_
    refine gx_goto (tgt := 20) B dX0_goesOut_16 (by decide) ?_
    refine z_iretz B Rt dX0_goesOut_20 (by decide) ?_
    exact ⟨by first | exact (bz_1.mpr c12).symm | exact (bz_0.mpr c12).symm, rfl⟩

theorem bz_ne {p q : Prop} [Decidable p] [Decidable q] : bz p = bz q ↔ (p ↔ q) := by unfold bz; split <;> split <;> simp_all
theorem mX0_turnsAt {l : Launch} {G : gx_G} (hG : gx_OK G 76) (J : zJ) {t : Int} {b : Nat} (hb : b < 100) : zMi l G yX0_turnsAt cX0_turnsAt 3 .boolean rmX0_turnsAt [.ref (gx_ad G 11), .int (zI t), .int (zI (b : Int))] J (fun r J' => r = bz (trn (J 11 2) t b) ∧ J' = J) := by
  refine gx_mi hG (by decide) (Nat.le_of_ble_eq_true rfl) (fun X hla B Rt => ?_)
  subst hla
  have B : gx_B G X RX0 cX0_turnsAt 3 rmX0_turnsAt 76 := B
  show gx_WG G X 3 (zh J) 0 [(0, .ref (gx_ad G 11)), (1, .int (zI t)), (2, .int (zI (b : Int)))] []
  refine gx_iload_n B dX0_turnsAt_0 rfl rfl ?_
  refine z_if_le (tgt := 25) B dX0_turnsAt_1 ⟨by omega, by omega⟩ (by decide) (fun c1 => ?_) (fun c1 => ?_)
  · refine z_iconst B dX0_turnsAt_25 ?_
    refine z_iretz B Rt dX0_turnsAt_26 (by decide) ?_
    have g1 := gz01 (J 11 2) t b
    have g2 := gz01 (J 11 2) t ((b : Int) - 1)
    refine ⟨?_, rfl⟩
    first
     | exact (bz_1.mpr ⟨by omega, by omega⟩).symm
     | exact (bz_0.mpr (by omega)).symm
  · refine gx_aload_n B dX0_turnsAt_4 rfl rfl ?_
    refine gx_iload_n B dX0_turnsAt_5 rfl rfl ?_
    refine gx_iload_n B dX0_turnsAt_6 rfl rfl ?_
    refine z_callVi [.int (zI t), .int (zI (b : Int))] B lv_X0_72 (mX0_goesOut hG J (t := t) (b := (b : Int))) rfl (by decide) rfl rfl (Nat.le_of_ble_eq_true rfl) (by decide) (by decide) dX0_turnsAt_7 (fun r2 J1 hJ1 => ?_)
    rw [show r2 = bz (gz (J 11 2) t (b : Int) = 0) from hJ1.1, hJ1.2]
    refine gx_aload_n B dX0_turnsAt_10 rfl rfl ?_
    refine gx_iload_n B dX0_turnsAt_11 rfl rfl ?_
    refine gx_iload_n B dX0_turnsAt_12 rfl rfl ?_
    refine z_iconst B dX0_turnsAt_13 ?_
    refine z_isub B dX0_turnsAt_14 ?_
    refine z_callVi [.int (zI t), .int (zI ((b : Int) - 1))] B lv_X0_72 (mX0_goesOut hG J (t := t) (b := (b : Int) - 1)) rfl (by decide) rfl rfl (Nat.le_of_ble_eq_true rfl) (by decide) (by decide) dX0_turnsAt_15 (fun r4 J3 hJ3 => ?_)
    rw [show r4 = bz (gz (J 11 2) t ((b : Int) - 1) = 0) from hJ3.1, hJ3.2]
    refine z_icmp_eq (tgt := 25) B dX0_turnsAt_18 (bzB _) (bzB _) (by decide) (fun c18 => ?_) (fun c18 => ?_)
    · rw [bz_ne] at c18
      refine z_iconst B dX0_turnsAt_25 ?_
      refine z_iretz B Rt dX0_turnsAt_26 (by decide) ?_
      have g1 := gz01 (J 11 2) t b
      have g2 := gz01 (J 11 2) t ((b : Int) - 1)
      refine ⟨?_, rfl⟩
      first
       | exact (bz_1.mpr ⟨by omega, by omega⟩).symm
       | exact (bz_0.mpr (by omega)).symm
    · rw [bz_ne] at c18
      refine z_iconst B dX0_turnsAt_21 ?_
      refine gx_goto (tgt := 26) B dX0_turnsAt_22 (by decide) ?_
      refine z_iretz B Rt dX0_turnsAt_26 (by decide) ?_
      have g1 := gz01 (J 11 2) t b
      have g2 := gz01 (J 11 2) t ((b : Int) - 1)
      refine ⟨?_, rfl⟩
      first
       | exact (bz_1.mpr ⟨by omega, by omega⟩).symm
       | exact (bz_0.mpr (by omega)).symm

theorem mX0_airMoved {l : Launch} {G : gx_G} (hG : gx_OK G 76) (J : zJ) {t : Int} {b : Nat} (hb : b < 8) : zMi l G yX0_airMoved cX0_airMoved 3 .int rmX0_airMoved [.ref (gx_ad G 11), .int (zI t), .int (zI (b : Int))] J (fun r J' => r = mvZ (J 11 2) t (J 12) b ∧ J' = J) := by
  refine gx_mi hG (by decide) (Nat.le_of_ble_eq_true rfl) (fun X hla B Rt => ?_)
  subst hla
  have B : gx_B G X RX0 cX0_airMoved 3 rmX0_airMoved 76 := B
  show gx_WG G X 3 (zh J) 0 [(0, .ref (gx_ad G 11)), (1, .int (zI t)), (2, .int (zI (b : Int)))] []
  refine gx_aload_n B dX0_airMoved_0 rfl rfl ?_
  refine gx_iload_n B dX0_airMoved_1 rfl rfl ?_
  refine gx_iload_n B dX0_airMoved_2 rfl rfl ?_
  refine z_callVi [.int (zI t), .int (zI (b : Int))] B lv_X0_72 (mX0_goesOut hG J (t := t) (b := (b : Int))) rfl (by decide) rfl rfl (Nat.le_of_ble_eq_true rfl) (by decide) (by decide) dX0_airMoved_3 (fun r2 J1 hJ1 => ?_)
  rw [show r2 = bz (gz (J 11 2) t (b : Int) = 0) from hJ1.1, hJ1.2]
  refine z_if_eq (tgt := 18) B dX0_airMoved_6 (bzB _) (by decide) (fun c6 => ?_) (fun c6 => ?_)
  · rw [bz_0] at c6
    refine gx_aload_n B dX0_airMoved_18 rfl rfl ?_
    refine gx_getr (t := 12) B fl_X0_9 rfl (by decide) rfl dX0_airMoved_19 ?_
    refine gx_iload_n B dX0_airMoved_22 rfl rfl ?_
    refine z_iald b B rfl (by decide) rfl hb (by decide) dX0_airMoved_23 ?_
    refine z_ineg B dX0_airMoved_24 ?_
    refine z_ireti B Rt dX0_airMoved_25 ?_
    refine ⟨?_, rfl⟩
    unfold mvZ
    first | rw [if_pos c6] | rw [if_neg c6]
  · rw [bz_n0] at c6
    refine gx_aload_n B dX0_airMoved_9 rfl rfl ?_
    refine gx_getr (t := 12) B fl_X0_9 rfl (by decide) rfl dX0_airMoved_10 ?_
    refine gx_iload_n B dX0_airMoved_13 rfl rfl ?_
    refine z_iald b B rfl (by decide) rfl hb (by decide) dX0_airMoved_14 ?_
    refine gx_goto (tgt := 25) B dX0_airMoved_15 (by decide) ?_
    refine z_ireti B Rt dX0_airMoved_25 ?_
    refine ⟨?_, rfl⟩
    unfold mvZ
    first | rw [if_pos c6] | rw [if_neg c6]

theorem lpTwt {G : gx_G} {X : gx_X} (hG : gx_OK G 76) (B : gx_B G X RX0 cX0_turnsWhenTied 3 rmX0_turnsWhenTied 76) {J : zJ} {t : Int} {N : Nat} (hB : BPre J N) (Rt : gx_Ri G X .boolean (zpi (fun r J' => (r = 1 ∧ tied (J 11 2) t (J 13) N ∨ r = 0 ∧ ¬ tied (J 11 2) t (J 13) N) ∧ J' = J))) : ∀ i : Nat, i ≤ (max N 1) → 1 ≤ i → (∀ b, b < i → ¬ (J 13 b = 3 ∧ trn (J 11 2) t b)) → gx_WG G X 3 (zh J) 2 [(0, .ref (gx_ad G 11)), (1, .int (zI t)), (2, .int (zI (i : Int)))] [] := by
  refine up_ind (fun i hi ih => ?_)
  intro hi1 hno
  have h2 := hB.1
  have h8 := hB.2.1
  refine gx_iload_n B dX0_turnsWhenTied_2 rfl rfl ?_
  refine gx_aload_n B dX0_turnsWhenTied_3 rfl rfl ?_
  refine z_geti B fl_X0_18 rfl (by decide) rfl dX0_turnsWhenTied_4 ?_
  refine z_icmp_ge (tgt := 37) B dX0_turnsWhenTied_7 ⟨by omega, by omega⟩ ⟨by omega, by omega⟩ (by decide) (fun c7 => ?_) (fun c7 => ?_)
  · refine z_iconst B dX0_turnsWhenTied_37 ?_
    refine z_iretz B Rt dX0_turnsWhenTied_38 (by decide) ?_
    refine ⟨Or.inr ⟨rfl, fun q => ?_⟩, rfl⟩
    obtain ⟨b, h1, h3⟩ := q
    exact hno b (by omega) h3
  · have hm := (hB.2.2 i (by omega)).2
    refine gx_aload_n B dX0_turnsWhenTied_10 rfl rfl ?_
    refine gx_getr (t := 13) B fl_X0_15 rfl (by decide) rfl dX0_turnsWhenTied_11 ?_
    refine gx_iload_n B dX0_turnsWhenTied_14 rfl rfl ?_
    refine z_iald i B rfl (by decide) rfl (show i < 8 by omega) (by decide) dX0_turnsWhenTied_15 ?_
    refine z_iconst B dX0_turnsWhenTied_16 ?_
    refine z_icmp_ne (tgt := 31) B dX0_turnsWhenTied_17 ⟨by omega, by omega⟩ ⟨by omega, by omega⟩ (by decide) (fun c17 => ?_) (fun c17 => ?_)
    · refine z_iinc (fun v => [(0, .ref (gx_ad G 11)), (1, .int (zI t)), (2, .int (zI v))]) B dX0_turnsWhenTied_31 rfl (by decide) rfl (fun _ => rfl) (fun v2 hv2 => ?_)
      rw [show v2 = ((i + 1 : Nat) : Int) from (by omega)]
      refine gx_goto (tgt := 2) B dX0_turnsWhenTied_34 (by decide) ?_
      refine ih (by omega) (by omega) (fun b hb => ?_)
      by_cases e : b = i
      · subst e; intro q; first | exact c26 q.2 | exact c17 q.1
      · exact hno b (by omega)
    · refine gx_aload_n B dX0_turnsWhenTied_20 rfl rfl ?_
      refine gx_iload_n B dX0_turnsWhenTied_21 rfl rfl ?_
      refine gx_iload_n B dX0_turnsWhenTied_22 rfl rfl ?_
      refine z_callVi [.int (zI t), .int (zI (i : Int))] B lv_X0_76 (mX0_turnsAt hG J (t := t) (b := i) (by omega)) rfl (by decide) rfl rfl (Nat.le_of_ble_eq_true rfl) (by decide) (by decide) dX0_turnsWhenTied_23 (fun r2 J1 hJ1 => ?_)
      rw [show r2 = bz (trn (J 11 2) t i) from hJ1.1, hJ1.2]
      refine z_if_eq (tgt := 31) B dX0_turnsWhenTied_26 (bzB _) (by decide) (fun c26 => ?_) (fun c26 => ?_)
      · rw [bz_0] at c26
        refine z_iinc (fun v => [(0, .ref (gx_ad G 11)), (1, .int (zI t)), (2, .int (zI v))]) B dX0_turnsWhenTied_31 rfl (by decide) rfl (fun _ => rfl) (fun v2 hv2 => ?_)
        rw [show v2 = ((i + 1 : Nat) : Int) from (by omega)]
        refine gx_goto (tgt := 2) B dX0_turnsWhenTied_34 (by decide) ?_
        refine ih (by omega) (by omega) (fun b hb => ?_)
        by_cases e : b = i
        · subst e; intro q; first | exact c26 q.2 | exact c17 q.1
        · exact hno b (by omega)
      · rw [bz_n0] at c26
        refine z_iconst B dX0_turnsWhenTied_29 ?_
        refine z_iretz B Rt dX0_turnsWhenTied_30 (by decide) ?_
        exact ⟨Or.inl ⟨rfl, i, by omega, c17, c26⟩, rfl⟩

theorem mX0_turnsWhenTied {l : Launch} {G : gx_G} (hG : gx_OK G 76) (J : zJ) {t : Int} {N : Nat} (hB : BPre J N) : zMi l G yX0_turnsWhenTied cX0_turnsWhenTied 3 .boolean rmX0_turnsWhenTied [.ref (gx_ad G 11), .int (zI t)] J (fun r J' => (r = 1 ∧ tied (J 11 2) t (J 13) N ∨ r = 0 ∧ ¬ tied (J 11 2) t (J 13) N) ∧ J' = J) := by
  refine gx_mi hG (by decide) (Nat.le_of_ble_eq_true rfl) (fun X hla B Rt => ?_)
  subst hla
  have B : gx_B G X RX0 cX0_turnsWhenTied 3 rmX0_turnsWhenTied 76 := B
  show gx_WG G X 3 (zh J) 0 [(0, .ref (gx_ad G 11)), (1, .int (zI t))] []
  refine z_iconst B dX0_turnsWhenTied_0 ?_
  refine z_istore_n (fun v => [(0, .ref (gx_ad G 11)), (1, .int (zI t)), (2, .int (zI v))]) B dX0_turnsWhenTied_1 rfl (by decide) rfl (fun _ => rfl) (fun v2 hv2 => ?_)
  rw [show v2 = ((1 : Nat) : Int) from (by omega)]
  exact lpTwt hG B hB Rt 1 (by omega) (by omega) (fun b hb q => by have := q.2.1; omega)

theorem lpPeak {G : gx_G} {X : gx_X} (hG : gx_OK G 76) (B : gx_B G X RX0 cX0_peakOf 6 rmX0_peakOf 76) {J : zJ} {t st : Int} {N : Nat} (hB : BPre J N) (h0 : 0 ≤ st) (h1 : st ≤ 400) (Rt : gx_Ri G X .int (zpi (fun r J' => (r = -1 ∧ (∃ b, b < N ∧ airN (J 11 2) t (J 12) st (b + 1) < 0) ∨ r = pkN (J 11 2) t (J 12) st N ∧ ∀ b, b < N → 0 ≤ airN (J 11 2) t (J 12) st (b + 1)) ∧ J' = J))) : ∀ i : Nat, i ≤ N → (∀ b, b < i → 0 ≤ airN (J 11 2) t (J 12) st (b + 1)) → gx_WG G X 6 (zh J) 8 [(0, .ref (gx_ad G 11)), (1, .int (zI t)), (2, .int (zI st)), (3, .int (zI (airN (J 11 2) t (J 12) st i))), (4, .int (zI (pkN (J 11 2) t (J 12) st i))), (5, .int (zI (i : Int)))] [] := by
  refine up_ind (fun i hi ih => ?_)
  intro hno
  have h2 := hB.1
  have h8 := hB.2.1
  have hai := air_le (n := J 11 2) (t := t) (fun b hb => (hB.2.2 b hb).1) h0 h1 i hi
  have hpi := pk_le2 (n := J 11 2) (t := t) (fun b hb => (hB.2.2 b hb).1) h0 h1 i hi
  refine gx_iload B dX0_peakOf_8 rfl ?_
  refine gx_aload_n B dX0_peakOf_10 rfl rfl ?_
  refine z_geti B fl_X0_18 rfl (by decide) rfl dX0_peakOf_11 ?_
  refine z_icmp_ge (tgt := 47) B dX0_peakOf_14 ⟨by omega, by omega⟩ ⟨by omega, by omega⟩ (by decide) (fun c14 => ?_) (fun c14 => ?_)
  · refine gx_iload B dX0_peakOf_47 rfl ?_
    refine z_ireti B Rt dX0_peakOf_49 ?_
    obtain rfl : i = N := by omega
    exact ⟨Or.inr ⟨rfl, hno⟩, rfl⟩
  · have hai1 := air_le (n := J 11 2) (t := t) (fun b hb => (hB.2.2 b hb).1) h0 h1 (i + 1) (by omega)
    refine gx_iload_n B dX0_peakOf_17 rfl rfl ?_
    refine gx_aload_n B dX0_peakOf_18 rfl rfl ?_
    refine gx_iload_n B dX0_peakOf_19 rfl rfl ?_
    refine gx_iload B dX0_peakOf_20 rfl ?_
    refine z_callVi [.int (zI t), .int (zI (i : Int))] B lv_X0_79 (mX0_airMoved hG J (t := t) (b := i) (by omega)) rfl (by decide) rfl rfl (Nat.le_of_ble_eq_true rfl) (by decide) (by decide) dX0_peakOf_22 (fun r2 J1 hJ1 => ?_)
    rw [show r2 = mvZ (J 11 2) t (J 12) i from hJ1.1, hJ1.2]
    refine z_iadd B dX0_peakOf_25 ?_
    refine z_istore_n (fun v => [(0, .ref (gx_ad G 11)), (1, .int (zI t)), (2, .int (zI st)), (3, .int (zI v)), (4, .int (zI (pkN (J 11 2) t (J 12) st i))), (5, .int (zI (i : Int)))]) B dX0_peakOf_26 rfl (by decide) rfl (fun _ => rfl) (fun v3 hv3 => ?_)
    rw [show v3 = airN (J 11 2) t (J 12) st (i + 1) from (by rw [hv3]; rfl)]
    refine gx_iload_n B dX0_peakOf_27 rfl rfl ?_
    refine z_if_ge (tgt := 33) B dX0_peakOf_28 ⟨by omega, by omega⟩ (by decide) (fun c28 => ?_) (fun c28 => ?_)
    · refine gx_iload B dX0_peakOf_33 rfl ?_
      refine gx_iload_n B dX0_peakOf_35 rfl rfl ?_
      refine z_mmax B lm_X0_61 (by decide) (Nat.le_of_ble_eq_true rfl) ⟨by omega, by omega⟩ ⟨by omega, by omega⟩ dX0_peakOf_36 ?_
      refine z_istore (fun v => [(0, .ref (gx_ad G 11)), (1, .int (zI t)), (2, .int (zI st)), (3, .int (zI (airN (J 11 2) t (J 12) st (i + 1)))), (4, .int (zI v)), (5, .int (zI (i : Int)))]) B dX0_peakOf_39 (by decide) rfl (fun _ => rfl) (fun v4 hv4 => ?_)
      rw [show v4 = pkN (J 11 2) t (J 12) st (i + 1) from (by rw [hv4]; rfl)]
      refine z_iinc (fun v => [(0, .ref (gx_ad G 11)), (1, .int (zI t)), (2, .int (zI st)), (3, .int (zI (airN (J 11 2) t (J 12) st (i + 1)))), (4, .int (zI (pkN (J 11 2) t (J 12) st (i + 1)))), (5, .int (zI v))]) B dX0_peakOf_41 rfl (by decide) rfl (fun _ => rfl) (fun v5 hv5 => ?_)
      rw [show v5 = ((i + 1 : Nat) : Int) from (by omega)]
      refine gx_goto (tgt := 8) B dX0_peakOf_44 (by decide) ?_
      refine ih (by omega) (fun b hb => ?_)
      by_cases e : b = i
      · rw [e]; exact c28
      · exact hno b (by omega)
    · refine z_iconst B dX0_peakOf_31 ?_
      refine z_ireti B Rt dX0_peakOf_32 ?_
      exact ⟨Or.inl ⟨rfl, i, by omega, c28⟩, rfl⟩

theorem mX0_peakOf {l : Launch} {G : gx_G} (hG : gx_OK G 76) (J : zJ) {t st : Int} {N : Nat} (hB : BPre J N) (h0 : 0 ≤ st) (h1 : st ≤ 400) : zMi l G yX0_peakOf cX0_peakOf 6 .int rmX0_peakOf [.ref (gx_ad G 11), .int (zI t), .int (zI st)] J (fun r J' => (r = -1 ∧ (∃ b, b < N ∧ airN (J 11 2) t (J 12) st (b + 1) < 0) ∨ r = pkN (J 11 2) t (J 12) st N ∧ ∀ b, b < N → 0 ≤ airN (J 11 2) t (J 12) st (b + 1)) ∧ J' = J) := by
  refine gx_mi hG (by decide) (Nat.le_of_ble_eq_true rfl) (fun X hla B Rt => ?_)
  subst hla
  have B : gx_B G X RX0 cX0_peakOf 6 rmX0_peakOf 76 := B
  show gx_WG G X 6 (zh J) 0 [(0, .ref (gx_ad G 11)), (1, .int (zI t)), (2, .int (zI st))] []
  refine gx_iload_n B dX0_peakOf_0 rfl rfl ?_
  refine z_istore_n (fun v => [(0, .ref (gx_ad G 11)), (1, .int (zI t)), (2, .int (zI st)), (3, .int (zI v))]) B dX0_peakOf_1 rfl (by decide) rfl (fun _ => rfl) (fun v3 hv3 => ?_)
  rw [show v3 = airN (J 11 2) t (J 12) st 0 from (by rw [hv3]; rfl)]
  refine gx_iload_n B dX0_peakOf_2 rfl rfl ?_
  refine z_istore (fun v => [(0, .ref (gx_ad G 11)), (1, .int (zI t)), (2, .int (zI st)), (3, .int (zI (airN (J 11 2) t (J 12) st 0))), (4, .int (zI v))]) B dX0_peakOf_3 (by decide) rfl (fun _ => rfl) (fun v4 hv4 => ?_)
  rw [show v4 = pkN (J 11 2) t (J 12) st 0 from (by rw [hv4]; rfl)]
  refine z_iconst B dX0_peakOf_5 ?_
  refine z_istore (fun v => [(0, .ref (gx_ad G 11)), (1, .int (zI t)), (2, .int (zI st)), (3, .int (zI (airN (J 11 2) t (J 12) st 0))), (4, .int (zI (pkN (J 11 2) t (J 12) st 0))), (5, .int (zI v))]) B dX0_peakOf_6 (by decide) rfl (fun _ => rfl) (fun v5 hv5 => ?_)
  rw [show v5 = ((0 : Nat) : Int) from (by omega)]
  exact lpPeak hG B hB h0 h1 Rt 0 (by omega) (fun b hb => by omega)

theorem lpPrice {G : gx_G} {X : gx_X} (hG : gx_OK G 76) (B : gx_B G X RX0 cX0_priceOf 4 rmX0_priceOf 76) {J : zJ} {t : Int} {N : Nat} (hB : BPre J N) (Rt : gx_Ri G X .int (zpi (fun r J' => r = sumN (prc (J 11 2) t (J 13)) N ∧ J' = J))) : ∀ i : Nat, i ≤ (max N 1) → 1 ≤ i → (N = 0 → sumN (prc (J 11 2) t (J 13)) i = 0) → gx_WG G X 4 (zh J) 4 [(0, .ref (gx_ad G 11)), (1, .int (zI t)), (2, .int (zI (sumN (prc (J 11 2) t (J 13)) i))), (3, .int (zI (i : Int)))] [] := by
  refine up_ind (fun i hi ih => ?_)
  intro hi1 hz
  have h2 := hB.1
  have h8 := hB.2.1
  refine gx_iload_n B dX0_priceOf_4 rfl rfl ?_
  refine gx_aload_n B dX0_priceOf_5 rfl rfl ?_
  refine z_geti B fl_X0_18 rfl (by decide) rfl dX0_priceOf_6 ?_
  refine z_icmp_ge (tgt := 40) B dX0_priceOf_9 ⟨by omega, by omega⟩ ⟨by omega, by omega⟩ (by decide) (fun c9 => ?_) (fun c9 => ?_)
  · refine gx_iload_n B dX0_priceOf_40 rfl rfl ?_
    refine z_ireti B Rt dX0_priceOf_41 ?_
    refine ⟨?_, rfl⟩
    by_cases e : N = 0
    · rw [hz e, e]; rfl
    · rw [show i = N by omega]
  · have hm := (hB.2.2 i (by omega)).2
    refine gx_aload_n B dX0_priceOf_12 rfl rfl ?_
    refine gx_iload_n B dX0_priceOf_13 rfl rfl ?_
    refine gx_iload_n B dX0_priceOf_14 rfl rfl ?_
    refine z_callVi [.int (zI t), .int (zI (i : Int))] B lv_X0_76 (mX0_turnsAt hG J (t := t) (b := i) (by omega)) rfl (by decide) rfl rfl (Nat.le_of_ble_eq_true rfl) (by decide) (by decide) dX0_priceOf_15 (fun r2 J1 hJ1 => ?_)
    rw [show r2 = bz (trn (J 11 2) t i) from hJ1.1, hJ1.2]
    refine z_if_eq (tgt := 34) B dX0_priceOf_18 (bzB _) (by decide) (fun c18 => ?_) (fun c18 => ?_)
    · rw [bz_0] at c18
      have e2 : sumN (prc (J 11 2) t (J 13)) (i + 1) = sumN (prc (J 11 2) t (J 13)) i := by
        show sumN (prc (J 11 2) t (J 13)) i + prc (J 11 2) t (J 13) i = _
        unfold prc
        rw [if_neg c18]; omega
      refine z_iinc (fun v => [(0, .ref (gx_ad G 11)), (1, .int (zI t)), (2, .int (zI (sumN (prc (J 11 2) t (J 13)) i))), (3, .int (zI v))]) B dX0_priceOf_34 rfl (by decide) rfl (fun _ => rfl) (fun v3 hv3 => ?_)
      rw [show v3 = ((i + 1 : Nat) : Int) from (by omega)]
      refine gx_goto (tgt := 4) B dX0_priceOf_37 (by decide) ?_
      have h9 := ih (by omega) (by omega) (fun q => by omega)
      rw [e2] at h9
      exact h9
    · rw [bz_n0] at c18
      have e2 : sumN (prc (J 11 2) t (J 13)) (i + 1) = sumN (prc (J 11 2) t (J 13)) i + z_turnN (J 13 i).toNat := by
        show sumN (prc (J 11 2) t (J 13)) i + prc (J 11 2) t (J 13) i = _
        unfold prc
        rw [if_pos c18]
      refine gx_iload_n B dX0_priceOf_21 rfl rfl ?_
      refine gx_getTurn B rfl dX0_priceOf_22 ?_
      refine gx_aload_n B dX0_priceOf_25 rfl rfl ?_
      refine gx_getr (t := 13) B fl_X0_15 rfl (by decide) rfl dX0_priceOf_26 ?_
      refine gx_iload_n B dX0_priceOf_29 rfl rfl ?_
      refine z_iald i B rfl (by decide) rfl (show i < 8 by omega) (by decide) dX0_priceOf_30 ?_
      refine z_turnAt ((J 13 i).toNat) B (by omega) (by omega) dX0_priceOf_31 ?_
      refine z_iadd B dX0_priceOf_32 ?_
      refine z_istore_n (fun v => [(0, .ref (gx_ad G 11)), (1, .int (zI t)), (2, .int (zI v)), (3, .int (zI (i : Int)))]) B dX0_priceOf_33 rfl (by decide) rfl (fun _ => rfl) (fun v2 hv2 => ?_)
      rw [show v2 = sumN (prc (J 11 2) t (J 13)) (i + 1) from (by rw [hv2, e2])]
      refine z_iinc (fun v => [(0, .ref (gx_ad G 11)), (1, .int (zI t)), (2, .int (zI (sumN (prc (J 11 2) t (J 13)) (i + 1)))), (3, .int (zI v))]) B dX0_priceOf_34 rfl (by decide) rfl (fun _ => rfl) (fun v3 hv3 => ?_)
      rw [show v3 = ((i + 1 : Nat) : Int) from (by omega)]
      refine gx_goto (tgt := 4) B dX0_priceOf_37 (by decide) ?_
      have h9 := ih (by omega) (by omega) (fun q => by omega)
      exact h9

theorem mX0_priceOf {l : Launch} {G : gx_G} (hG : gx_OK G 76) (J : zJ) {t : Int} {N : Nat} (hB : BPre J N) : zMi l G yX0_priceOf cX0_priceOf 4 .int rmX0_priceOf [.ref (gx_ad G 11), .int (zI t)] J (fun r J' => r = sumN (prc (J 11 2) t (J 13)) N ∧ J' = J) := by
  refine gx_mi hG (by decide) (Nat.le_of_ble_eq_true rfl) (fun X hla B Rt => ?_)
  subst hla
  have B : gx_B G X RX0 cX0_priceOf 4 rmX0_priceOf 76 := B
  show gx_WG G X 4 (zh J) 0 [(0, .ref (gx_ad G 11)), (1, .int (zI t))] []
  refine z_iconst B dX0_priceOf_0 ?_
  refine z_istore_n (fun v => [(0, .ref (gx_ad G 11)), (1, .int (zI t)), (2, .int (zI v))]) B dX0_priceOf_1 rfl (by decide) rfl (fun _ => rfl) (fun v2 hv2 => ?_)
  rw [show v2 = sumN (prc (J 11 2) t (J 13)) 1 from (by rw [hv2]; show (0 : Int) = 0 + prc (J 11 2) t (J 13) 0; unfold prc; rw [if_neg (by omega)]; rfl)]
  refine z_iconst B dX0_priceOf_2 ?_
  refine z_istore_n (fun v => [(0, .ref (gx_ad G 11)), (1, .int (zI t)), (2, .int (zI (sumN (prc (J 11 2) t (J 13)) 1))), (3, .int (zI v))]) B dX0_priceOf_3 rfl (by decide) rfl (fun _ => rfl) (fun v3 hv3 => ?_)
  rw [show v3 = ((1 : Nat) : Int) from (by omega)]
  refine lpPrice hG B hB Rt 1 (by omega) (by omega) (fun _ => ?_)
  show (0 : Int) + prc (J 11 2) t (J 13) 0 = 0
  unfold prc
  rw [if_neg (by omega)]; rfl

theorem lpTurns {G : gx_G} {X : gx_X} (hG : gx_OK G 76) (B : gx_B G X RX0 cX0_turnsOf 4 rmX0_turnsOf 76) {J : zJ} {t : Int} {N : Nat} (hB : BPre J N) (Rt : gx_Ri G X .int (zpi (fun r J' => r = sumN (tct (J 11 2) t) N ∧ J' = J))) : ∀ i : Nat, i ≤ (max N 1) → 1 ≤ i → (N = 0 → sumN (tct (J 11 2) t) i = 0) → gx_WG G X 4 (zh J) 4 [(0, .ref (gx_ad G 11)), (1, .int (zI t)), (2, .int (zI (sumN (tct (J 11 2) t) i))), (3, .int (zI (i : Int)))] [] := by
  refine up_ind (fun i hi ih => ?_)
  intro hi1 hz
  have h2 := hB.1
  have h8 := hB.2.1
  refine gx_iload_n B dX0_turnsOf_4 rfl rfl ?_
  refine gx_aload_n B dX0_turnsOf_5 rfl rfl ?_
  refine z_geti B fl_X0_18 rfl (by decide) rfl dX0_turnsOf_6 ?_
  refine z_icmp_ge (tgt := 30) B dX0_turnsOf_9 ⟨by omega, by omega⟩ ⟨by omega, by omega⟩ (by decide) (fun c9 => ?_) (fun c9 => ?_)
  · refine gx_iload_n B dX0_turnsOf_30 rfl rfl ?_
    refine z_ireti B Rt dX0_turnsOf_31 ?_
    refine ⟨?_, rfl⟩
    by_cases e : N = 0
    · rw [hz e, e]; rfl
    · rw [show i = N by omega]
  · refine gx_aload_n B dX0_turnsOf_12 rfl rfl ?_
    refine gx_iload_n B dX0_turnsOf_13 rfl rfl ?_
    refine gx_iload_n B dX0_turnsOf_14 rfl rfl ?_
    refine z_callVi [.int (zI t), .int (zI (i : Int))] B lv_X0_76 (mX0_turnsAt hG J (t := t) (b := i) (by omega)) rfl (by decide) rfl rfl (Nat.le_of_ble_eq_true rfl) (by decide) (by decide) dX0_turnsOf_15 (fun r2 J1 hJ1 => ?_)
    rw [show r2 = bz (trn (J 11 2) t i) from hJ1.1, hJ1.2]
    refine z_if_eq (tgt := 24) B dX0_turnsOf_18 (bzB _) (by decide) (fun c18 => ?_) (fun c18 => ?_)
    · rw [bz_0] at c18
      have e2 : sumN (tct (J 11 2) t) (i + 1) = sumN (tct (J 11 2) t) i := by
        show sumN (tct (J 11 2) t) i + tct (J 11 2) t i = _
        unfold tct
        rw [if_neg c18]; omega
      refine z_iinc (fun v => [(0, .ref (gx_ad G 11)), (1, .int (zI t)), (2, .int (zI (sumN (tct (J 11 2) t) i))), (3, .int (zI v))]) B dX0_turnsOf_24 rfl (by decide) rfl (fun _ => rfl) (fun v3 hv3 => ?_)
      rw [show v3 = ((i + 1 : Nat) : Int) from (by omega)]
      refine gx_goto (tgt := 4) B dX0_turnsOf_27 (by decide) ?_
      have h9 := ih (by omega) (by omega) (fun q => by omega)
      rw [e2] at h9
      exact h9
    · rw [bz_n0] at c18
      have e2 : sumN (tct (J 11 2) t) (i + 1) = sumN (tct (J 11 2) t) i + 1 := by
        show sumN (tct (J 11 2) t) i + tct (J 11 2) t i = _
        unfold tct
        rw [if_pos c18]
      refine z_iinc (fun v => [(0, .ref (gx_ad G 11)), (1, .int (zI t)), (2, .int (zI v)), (3, .int (zI (i : Int)))]) B dX0_turnsOf_21 rfl (by decide) rfl (fun _ => rfl) (fun v2 hv2 => ?_)
      rw [show v2 = sumN (tct (J 11 2) t) (i + 1) from (by rw [hv2, e2])]
      refine z_iinc (fun v => [(0, .ref (gx_ad G 11)), (1, .int (zI t)), (2, .int (zI (sumN (tct (J 11 2) t) (i + 1)))), (3, .int (zI v))]) B dX0_turnsOf_24 rfl (by decide) rfl (fun _ => rfl) (fun v3 hv3 => ?_)
      rw [show v3 = ((i + 1 : Nat) : Int) from (by omega)]
      refine gx_goto (tgt := 4) B dX0_turnsOf_27 (by decide) ?_
      have h9 := ih (by omega) (by omega) (fun q => by omega)
      exact h9

theorem mX0_turnsOf {l : Launch} {G : gx_G} (hG : gx_OK G 76) (J : zJ) {t : Int} {N : Nat} (hB : BPre J N) : zMi l G yX0_turnsOf cX0_turnsOf 4 .int rmX0_turnsOf [.ref (gx_ad G 11), .int (zI t)] J (fun r J' => r = sumN (tct (J 11 2) t) N ∧ J' = J) := by
  refine gx_mi hG (by decide) (Nat.le_of_ble_eq_true rfl) (fun X hla B Rt => ?_)
  subst hla
  have B : gx_B G X RX0 cX0_turnsOf 4 rmX0_turnsOf 76 := B
  show gx_WG G X 4 (zh J) 0 [(0, .ref (gx_ad G 11)), (1, .int (zI t))] []
  refine z_iconst B dX0_turnsOf_0 ?_
  refine z_istore_n (fun v => [(0, .ref (gx_ad G 11)), (1, .int (zI t)), (2, .int (zI v))]) B dX0_turnsOf_1 rfl (by decide) rfl (fun _ => rfl) (fun v2 hv2 => ?_)
  rw [show v2 = sumN (tct (J 11 2) t) 1 from (by rw [hv2]; show (0 : Int) = 0 + tct (J 11 2) t 0; unfold tct; rw [if_neg (by omega)]; rfl)]
  refine z_iconst B dX0_turnsOf_2 ?_
  refine z_istore_n (fun v => [(0, .ref (gx_ad G 11)), (1, .int (zI t)), (2, .int (zI (sumN (tct (J 11 2) t) 1))), (3, .int (zI v))]) B dX0_turnsOf_3 rfl (by decide) rfl (fun _ => rfl) (fun v3 hv3 => ?_)
  rw [show v3 = ((1 : Nat) : Int) from (by omega)]
  refine lpTurns hG B hB Rt 1 (by omega) (by omega) (fun _ => ?_)
  show (0 : Int) + tct (J 11 2) t 0 = 0
  unfold tct
  rw [if_neg (by omega)]; rfl

theorem lpAirB {G : gx_G} {X : gx_X} (hG : gx_OK G 76) (B : gx_B G X RX0 cX0_airBehind 5 rmX0_airBehind 76) {J : zJ} {st : Int} {b : Nat} (hb : b < 8) (Rt : gx_Ri G X .int (zpi (fun r J' => r = airN (J 11 2) (J 11 3) (J 12) st (b + 1) ∧ J' = J))) : ∀ i : Nat, i ≤ (b + 1) → gx_WG G X 5 (zh J) 5 [(0, .ref (gx_ad G 11)), (1, .int (zI (b : Int))), (2, .int (zI st)), (3, .int (zI (airN (J 11 2) (J 11 3) (J 12) st i))), (4, .int (zI (i : Int)))] [] := by
  refine up_ind (fun i hi ih => ?_)
  refine gx_iload B dX0_airBehind_5 rfl ?_
  refine gx_iload_n B dX0_airBehind_7 rfl rfl ?_
  refine z_icmp_gt (tgt := 30) B dX0_airBehind_8 ⟨by omega, by omega⟩ ⟨by omega, by omega⟩ (by decide) (fun c8 => ?_) (fun c8 => ?_)
  · refine gx_iload_n B dX0_airBehind_30 rfl rfl ?_
    refine z_ireti B Rt dX0_airBehind_31 ?_
    refine ⟨?_, rfl⟩
    rw [show i = b + 1 by omega]
  · refine gx_iload_n B dX0_airBehind_11 rfl rfl ?_
    refine gx_aload_n B dX0_airBehind_12 rfl rfl ?_
    refine gx_aload_n B dX0_airBehind_13 rfl rfl ?_
    refine z_geti B fl_X0_22 rfl (by decide) rfl dX0_airBehind_14 ?_
    refine gx_iload B dX0_airBehind_17 rfl ?_
    refine z_callVi [.int (zI (J 11 3)), .int (zI (i : Int))] B lv_X0_79 (mX0_airMoved hG J (t := J 11 3) (b := i) (by omega)) rfl (by decide) rfl rfl (Nat.le_of_ble_eq_true rfl) (by decide) (by decide) dX0_airBehind_19 (fun r2 J1 hJ1 => ?_)
    rw [show r2 = mvZ (J 11 2) (J 11 3) (J 12) i from hJ1.1, hJ1.2]
    refine z_iadd B dX0_airBehind_22 ?_
    refine z_istore_n (fun v => [(0, .ref (gx_ad G 11)), (1, .int (zI (b : Int))), (2, .int (zI st)), (3, .int (zI v)), (4, .int (zI (i : Int)))]) B dX0_airBehind_23 rfl (by decide) rfl (fun _ => rfl) (fun v3 hv3 => ?_)
    rw [show v3 = airN (J 11 2) (J 11 3) (J 12) st (i + 1) from (by rw [hv3]; rfl)]
    refine z_iinc (fun v => [(0, .ref (gx_ad G 11)), (1, .int (zI (b : Int))), (2, .int (zI st)), (3, .int (zI (airN (J 11 2) (J 11 3) (J 12) st (i + 1)))), (4, .int (zI v))]) B dX0_airBehind_24 rfl (by decide) rfl (fun _ => rfl) (fun v4 hv4 => ?_)
    rw [show v4 = ((i + 1 : Nat) : Int) from (by omega)]
    refine gx_goto (tgt := 5) B dX0_airBehind_27 (by decide) ?_
    exact ih (by omega)

theorem mX0_airBehind {l : Launch} {G : gx_G} (hG : gx_OK G 76) (J : zJ) {st : Int} {b : Nat} (hb : b < 8) : zMi l G yX0_airBehind cX0_airBehind 5 .int rmX0_airBehind [.ref (gx_ad G 11), .int (zI (b : Int)), .int (zI st)] J (fun r J' => r = airN (J 11 2) (J 11 3) (J 12) st (b + 1) ∧ J' = J) := by
  refine gx_mi hG (by decide) (Nat.le_of_ble_eq_true rfl) (fun X hla B Rt => ?_)
  subst hla
  have B : gx_B G X RX0 cX0_airBehind 5 rmX0_airBehind 76 := B
  show gx_WG G X 5 (zh J) 0 [(0, .ref (gx_ad G 11)), (1, .int (zI (b : Int))), (2, .int (zI st))] []
  refine gx_iload_n B dX0_airBehind_0 rfl rfl ?_
  refine z_istore_n (fun v => [(0, .ref (gx_ad G 11)), (1, .int (zI (b : Int))), (2, .int (zI st)), (3, .int (zI v))]) B dX0_airBehind_1 rfl (by decide) rfl (fun _ => rfl) (fun v3 hv3 => ?_)
  rw [show v3 = airN (J 11 2) (J 11 3) (J 12) st 0 from (by rw [hv3]; rfl)]
  refine z_iconst B dX0_airBehind_2 ?_
  refine z_istore (fun v => [(0, .ref (gx_ad G 11)), (1, .int (zI (b : Int))), (2, .int (zI st)), (3, .int (zI (airN (J 11 2) (J 11 3) (J 12) st 0))), (4, .int (zI v))]) B dX0_airBehind_3 (by decide) rfl (fun _ => rfl) (fun v4 hv4 => ?_)
  rw [show v4 = ((0 : Nat) : Int) from (by omega)]
  exact lpAirB hG B hb Rt 0 (by omega)
end
section

/-- a way that keeps the air, and turns at no tied beat -/
def okW (n : Int) (u mk : Nat → Int) (st : Int) (N : Nat) (t : Nat) : Prop := ¬ tied n t mk N ∧ ∀ b, b < N → 0 ≤ airN n t u st (b + 1)
def Best (P : Nat → Prop) (f : Nat → Int) (T : Nat) (way price : Int) : Prop := (way = -1 ∧ price = 2147483647 ∧ ∀ t, t < T → ¬ P t) ∨ (∃ w : Nat, way = w ∧ w < T ∧ P w ∧ price = f w ∧ (∀ t, t < T → P t → f w ≤ f t) ∧ ∀ t, t < w → P t → f w < f t)
def Least (P : Nat → Prop) (f : Nat → Int) (T : Nat) (v : Int) : Prop := (∀ t, t < T → P t → v ≤ f t) ∧ (v = 2147483647 ∨ ∃ t, t < T ∧ P t ∧ v = f t)
theorem Best.skip {P : Nat → Prop} {f : Nat → Int} {T : Nat} {way price : Int} (h : Best P f T way price) (hs : ¬ P T ∨ price ≤ f T ∧ way ≠ -1) : Best P f (T + 1) way price := by
  rcases h with ⟨h1, h2, h3⟩ | ⟨w, h1, h2, h3, h4, h5, h6⟩
  · refine Or.inl ⟨h1, h2, fun t ht => ?_⟩
    by_cases e : t = T
    · rw [e]
      rcases hs with h | h
      · exact h
      · exact absurd h1 h.2
    · exact h3 t (by omega)
  · refine Or.inr ⟨w, h1, by omega, h3, h4, fun t ht hp => ?_, h6⟩
    by_cases e : t = T
    · subst e
      rcases hs with h | h
      · exact absurd hp h
      · rw [← h4]; exact h.1
    · exact h5 t (by omega) hp
theorem Best.take {P : Nat → Prop} {f : Nat → Int} {T : Nat} {way price : Int} (h : Best P f T way price) (hp : P T) (hf : f T < price) : Best P f (T + 1) (T : Int) (f T) := by
  refine Or.inr ⟨T, rfl, by omega, hp, rfl, fun t ht hpt => ?_, fun t ht hpt => ?_⟩
  · by_cases e : t = T
    · rw [e]; exact Int.le_refl _
    · rcases h with ⟨h1, h2, h3⟩ | ⟨w, h1, h2, h3, h4, h5, h6⟩
      · exact absurd hpt (h3 t (by omega))
      · have := h5 t (by omega) hpt; omega
  · rcases h with ⟨h1, h2, h3⟩ | ⟨w, h1, h2, h3, h4, h5, h6⟩
    · exact absurd hpt (h3 t ht)
    · have := h5 t ht hpt; omega
theorem Least.skip {P : Nat → Prop} {f : Nat → Int} {T : Nat} {v : Int} (h : Least P f T v) (hs : ¬ P T) : Least P f (T + 1) v := by
  refine ⟨fun t ht hp => ?_, ?_⟩
  · by_cases e : t = T
    · rw [e] at hp; exact absurd hp hs
    · exact h.1 t (by omega) hp
  · rcases h.2 with h | ⟨t, h1, h2⟩
    · exact Or.inl h
    · exact Or.inr ⟨t, by omega, h2⟩
theorem Least.take {P : Nat → Prop} {f : Nat → Int} {T : Nat} {v : Int} (h : Least P f T v) (hp : P T) : Least P f (T + 1) (min v (f T)) := by
  refine ⟨fun t ht hpt => ?_, ?_⟩
  · by_cases e : t = T
    · rw [e]; omega
    · have := h.1 t (by omega) hpt; omega
  · by_cases e : f T ≤ v
    · exact Or.inr ⟨T, by omega, hp, by omega⟩
    · rcases h.2 with h1 | ⟨t, h1, h2, h3⟩
      · exact Or.inl (by omega)
      · exact Or.inr ⟨t, by omega, h2, by omega⟩
/-- the class's bellows, behind choose -/
def BelN (J0 J : zJ) (N : Nat) (st room : Int) (T : Nat) : Prop := Best (fun t => okW (J0 11 2) (J0 12) (J0 13) st N t ∧ pkN (J0 11 2) t (J0 12) st N ≤ room) (fun t => sumN (prc (J0 11 2) t (J0 13)) N) T (J 11 3) (J 11 4) ∧ Least (okW (J0 11 2) (J0 12) (J0 13) st N) (fun t => max (pkN (J0 11 2) t (J0 12) st N) 1) T (J 11 5)
abbrev WFr (J J' : zJ) : Prop := ∀ x k, ¬ (x = 11 ∧ (k = 3 ∨ k = 4 ∨ k = 5)) → J' x k = J x k
theorem WFr.fun {J J' : zJ} (h : WFr J J') : J' 11 2 = J 11 2 ∧ J' 12 = J 12 ∧ J' 13 = J 13 := ⟨h 11 2 (by omega), funext fun k => h 12 k (by omega), funext fun k => h 13 k (by omega)⟩
theorem BPre.keep {J J' : zJ} {N : Nat} (h : BPre J N) (fr : WFr J J') : BPre J' N := by
  obtain ⟨e1, e2, e3⟩ := fr.fun
  unfold BPre
  rw [e1, e2, e3]; exact h
theorem pow8 {N : Nat} (h : N ≤ 8) : 1 ≤ 2 ^ N ∧ 2 ^ N ≤ 256 := ⟨Nat.one_le_two_pow, Nat.le_trans (Nat.pow_le_pow_right (by omega) h) (by decide)⟩
theorem zshl1 {N : Nat} (h : N ≤ 8) : zshl 1 (N : Int) = ((2 ^ N : Nat) : Int) := by
  have := zshl_nat (a := 1) (k := N) (by omega) (by have := pow8 h; omega)
  rw [Nat.one_mul] at this
  exact this

theorem lpBelC {G : gx_G} {X : gx_X} (hG : gx_OK G 76) (B : gx_B G X RX0 cX0_choose 6 rmX0_choose 76) {J0 : zJ} {N : Nat} {st room : Int} (hB : BPre J0 N) (h0 : 0 ≤ st) (h1 : st ≤ 400) (hr0 : 0 ≤ room) (hr1 : room ≤ 400) (Rt : gx_Rv G X (zpv (fun J' => BelN J0 J' N st room (2 ^ N) ∧ WFr J0 J'))) : ∀ i : Nat, i ≤ (2 ^ N) → ∀ (J : zJ), WFr J0 J → BelN J0 J N st room i → gx_WG G X 6 (zh J) 19 [(0, .ref (gx_ad G 11)), (1, .int (zI st)), (2, .int (zI room)), (3, .int (zI (i : Int)))] [] := by
  refine up_ind (fun i hi ih => ?_)
  intro J hfr hb
  have h8 := hB.2.1
  have hpw := pow8 h8
  obtain ⟨e1, e2, e3⟩ := hfr.fun
  refine gx_iload_n B dX0_choose_19 rfl rfl ?_
  refine z_iconst B dX0_choose_20 ?_
  refine gx_aload_n B dX0_choose_21 rfl rfl ?_
  refine z_geti B fl_X0_18 rfl (by decide) rfl dX0_choose_22 ?_
  refine z_ishl B dX0_choose_25 ?_
  rw [show zshl 1 (J 11 2) = ((2 ^ N : Nat) : Int) from (by rw [e1, hB.1]; exact zshl1 hB.2.1)]
  refine z_icmp_ge (tgt := 114) B dX0_choose_26 ⟨by omega, by omega⟩ ⟨by omega, by omega⟩ (by decide) (fun c26 => ?_) (fun c26 => ?_)
  · refine z_ret B Rt dX0_choose_114 ?_
    obtain rfl : i = 2 ^ N := by omega
    exact ⟨hb, hfr⟩
  · refine gx_aload_n B dX0_choose_29 rfl rfl ?_
    refine gx_iload_n B dX0_choose_30 rfl rfl ?_
    refine z_callVi [.int (zI (i : Int))] B lv_X0_53 (mX0_turnsWhenTied hG J (t := (i : Int)) (N := N) (hB.keep hfr)) rfl (by decide) rfl rfl (Nat.le_of_ble_eq_true rfl) (by decide) (by decide) dX0_choose_31 (fun tw J1 hJ1 => ?_)
    rw [hJ1.2]
    have h_tw := hJ1.1
    refine z_if_eq (tgt := 41) B dX0_choose_34 ⟨by rcases h_tw with q | q <;> omega, by rcases h_tw with q | q <;> omega⟩ (by decide) (fun c34 => ?_) (fun c34 => ?_)
    · have hnt : ¬ tied (J 11 2) i (J 13) N := by
        rcases h_tw with q | q
        · omega
        · exact q.2
      refine gx_aload_n B dX0_choose_41 rfl rfl ?_
      refine gx_iload_n B dX0_choose_42 rfl rfl ?_
      refine gx_iload_n B dX0_choose_43 rfl rfl ?_
      refine z_callVi [.int (zI (i : Int)), .int (zI st)] B lv_X0_57 (mX0_peakOf hG J (t := (i : Int)) (st := st) (N := N) (hB.keep hfr) h0 h1) rfl (by decide) rfl rfl (Nat.le_of_ble_eq_true rfl) (by decide) (by decide) dX0_choose_44 (fun pk J2 hJ2 => ?_)
      rw [hJ2.2]
      have h_pk := hJ2.1
      have hpkB : zB pk := by
        have hq9 := pk_le2 (n := J 11 2) (t := i) (fun b hb => ((hB.keep hfr).2.2 b hb).1) h0 h1 N (Nat.le_refl _)
        rcases h_pk with q | q
        · exact ⟨by omega, by omega⟩
        · exact ⟨by omega, by omega⟩
      refine z_istore (fun v => [(0, .ref (gx_ad G 11)), (1, .int (zI st)), (2, .int (zI room)), (3, .int (zI (i : Int))), (4, .int (zI v))]) B dX0_choose_47 (by decide) rfl (fun _ => rfl) (fun v hv => ?_)
      rw [hv]
      refine gx_iload B dX0_choose_49 rfl ?_
      refine z_iconst B dX0_choose_51 ?_
      refine z_icmp_ne (tgt := 58) B dX0_choose_52 (by first | decide | exact hpkB) ⟨by omega, by omega⟩ (by decide) (fun c52 => ?_) (fun c52 => ?_)
      · rcases h_pk with h_pk | h_pk
        · exact absurd h_pk.1 c52
        rw [e1, e2] at h_pk
        have hok : okW (J0 11 2) (J0 12) (J0 13) st N i := ⟨by rw [e1, e3] at hnt; exact hnt, h_pk.2⟩
        have epk : pk = pkN (J0 11 2) i (J0 12) st N := h_pk.1
        rw [epk]
        have hp9 := pk_le2 (n := J0 11 2) (t := i) (fun b hb => (hB.2.2 b hb).1) h0 h1 N (Nat.le_refl _)
        refine gx_aload_n B dX0_choose_58 rfl rfl ?_
        refine gx_aload_n B dX0_choose_59 rfl rfl ?_
        refine z_geti B fl_X0_28 rfl (by decide) rfl dX0_choose_60 ?_
        refine gx_iload B dX0_choose_63 rfl ?_
        refine z_iconst B dX0_choose_65 ?_
        refine z_mmax B lm_X0_61 (by decide) (Nat.le_of_ble_eq_true rfl) ⟨by omega, by omega⟩ ⟨by omega, by omega⟩ dX0_choose_66 ?_
        have h5 : 0 ≤ J 11 5 ∧ J 11 5 ≤ 2147483647 := by
          rcases hb.2.2 with q | ⟨t, q1, q2, q3⟩
          · omega
          · have := pk_le2 (n := J0 11 2) (t := t) (fun b hb => (hB.2.2 b hb).1) h0 h1 N (Nat.le_refl _)
            rw [q3]
            show 0 ≤ max (pkN (J0 11 2) t (J0 12) st N) 1 ∧ max (pkN (J0 11 2) t (J0 12) st N) 1 ≤ _
            omega
        refine z_mmin B lm_X0_66 (by decide) (Nat.le_of_ble_eq_true rfl) ⟨by omega, by omega⟩ ⟨by omega, by omega⟩ dX0_choose_69 ?_
        refine z_puti B fw_X0_28 rfl (by decide) rfl dX0_choose_72 (fun JL hJL => ?_)
        have hfl : WFr J0 JL := fun x k h => by rw [hJL, zup_ne (by omega)]; exact hfr x k h
        obtain ⟨d1, d2, d3⟩ := hfl.fun
        have hpr := price_le (J0 11 2) i (J0 13) N
        refine gx_aload_n B dX0_choose_75 rfl rfl ?_
        refine gx_iload_n B dX0_choose_76 rfl rfl ?_
        refine z_callVi [.int (zI (i : Int))] B lv_X0_69 (by have h9 := mX0_priceOf (l := gx_la X) hG JL (t := (i : Int)) (N := N) (hB.keep hfl); rw [d1, d3] at h9; exact h9) rfl (by decide) rfl rfl (Nat.le_of_ble_eq_true rfl) (by decide) (by decide) dX0_choose_77 (fun r4 J3 hJ3 => ?_)
        rw [show r4 = sumN (prc (J0 11 2) i (J0 13)) N from hJ3.1, hJ3.2]
        refine z_istore (fun v => [(0, .ref (gx_ad G 11)), (1, .int (zI st)), (2, .int (zI room)), (3, .int (zI (i : Int))), (4, .int (zI (pkN (J0 11 2) i (J0 12) st N))), (5, .int (zI v))]) B dX0_choose_80 (by decide) rfl (fun _ => rfl) (fun v hv => ?_)
        rw [hv]
        refine gx_iload B dX0_choose_82 rfl ?_
        refine gx_iload_n B dX0_choose_84 rfl rfl ?_
        refine z_icmp_gt (tgt := 108) B dX0_choose_85 ⟨by omega, by omega⟩ ⟨by omega, by omega⟩ (by decide) (fun c85 => ?_) (fun c85 => ?_)
        · refine z_iinc (fun v => [(0, .ref (gx_ad G 11)), (1, .int (zI st)), (2, .int (zI room)), (3, .int (zI v)), (4, .int (zI (pkN (J0 11 2) i (J0 12) st N))), (5, .int (zI (sumN (prc (J0 11 2) i (J0 13)) N)))]) B dX0_choose_108 rfl (by decide) rfl (fun _ => rfl) (fun v3 hv3 => ?_)
          rw [show v3 = ((i + 1 : Nat) : Int) from (by omega)]
          refine gx_goto (tgt := 19) B dX0_choose_111 (by decide) ?_
          refine gx_sub [0, 1, 2, 3] rfl ?_
          refine ih (by omega) JL hfl ⟨?_, ?_⟩
          · rw [hJL, zup_ne (by omega), zup_ne (by omega)]
            refine hb.1.skip ?_
            first
             | exact Or.inl (fun q => by have := q.2; omega)
             | (rw [hJL, zup_ne (by omega)] at c94; exact Or.inr ⟨c94, fun q => by rcases hb.1 with ⟨q1, q2, q3⟩ | ⟨w, q1, q2, q3⟩ <;> omega⟩)
          · rw [hJL, zup_self]
            exact hb.2.take hok
        · refine gx_iload B dX0_choose_88 rfl ?_
          refine gx_aload_n B dX0_choose_90 rfl rfl ?_
          refine z_geti B fl_X0_25 rfl (by decide) rfl dX0_choose_91 ?_
          have hJL4 : JL 11 4 = J 11 4 := by rw [hJL, zup_ne (by omega)]
          have h4B : zB (J 11 4) := by
            rcases hb.1 with ⟨q1, q2, q3⟩ | ⟨w, q1, q2, q3, q4, q5⟩
            · exact ⟨by omega, by omega⟩
            · have := price_le (J0 11 2) w (J0 13) N
              have q6 : J 11 4 = sumN (prc (J0 11 2) w (J0 13)) N := q4
              exact ⟨by omega, by omega⟩
          refine z_icmp_ge (tgt := 108) B dX0_choose_94 ⟨by omega, by omega⟩ (by rw [hJL4]; exact h4B) (by decide) (fun c94 => ?_) (fun c94 => ?_)
          · refine z_iinc (fun v => [(0, .ref (gx_ad G 11)), (1, .int (zI st)), (2, .int (zI room)), (3, .int (zI v)), (4, .int (zI (pkN (J0 11 2) i (J0 12) st N))), (5, .int (zI (sumN (prc (J0 11 2) i (J0 13)) N)))]) B dX0_choose_108 rfl (by decide) rfl (fun _ => rfl) (fun v3 hv3 => ?_)
            rw [show v3 = ((i + 1 : Nat) : Int) from (by omega)]
            refine gx_goto (tgt := 19) B dX0_choose_111 (by decide) ?_
            refine gx_sub [0, 1, 2, 3] rfl ?_
            refine ih (by omega) JL hfl ⟨?_, ?_⟩
            · rw [hJL, zup_ne (by omega), zup_ne (by omega)]
              refine hb.1.skip ?_
              first
               | exact Or.inl (fun q => by have := q.2; omega)
               | (rw [hJL, zup_ne (by omega)] at c94; exact Or.inr ⟨c94, fun q => by rcases hb.1 with ⟨q1, q2, q3⟩ | ⟨w, q1, q2, q3⟩ <;> omega⟩)
            · rw [hJL, zup_self]
              exact hb.2.take hok
          · refine gx_aload_n B dX0_choose_97 rfl rfl ?_
            refine gx_iload_n B dX0_choose_98 rfl rfl ?_
            refine z_puti B fw_X0_22 rfl (by decide) rfl dX0_choose_99 (fun JW hJW => ?_)
            refine gx_aload_n B dX0_choose_102 rfl rfl ?_
            refine gx_iload B dX0_choose_103 rfl ?_
            refine z_puti B fw_X0_25 rfl (by decide) rfl dX0_choose_105 (fun JQ hJQ => ?_)
            refine z_iinc (fun v => [(0, .ref (gx_ad G 11)), (1, .int (zI st)), (2, .int (zI room)), (3, .int (zI v)), (4, .int (zI (pkN (J0 11 2) i (J0 12) st N))), (5, .int (zI (sumN (prc (J0 11 2) i (J0 13)) N)))]) B dX0_choose_108 rfl (by decide) rfl (fun _ => rfl) (fun v3 hv3 => ?_)
            rw [show v3 = ((i + 1 : Nat) : Int) from (by omega)]
            refine gx_goto (tgt := 19) B dX0_choose_111 (by decide) ?_
            refine gx_sub [0, 1, 2, 3] rfl ?_
            refine ih (by omega) JQ (fun x k h => by rw [hJQ, zup_ne (by omega), hJW, zup_ne (by omega)]; exact hfl x k h) ⟨?_, ?_⟩
            · rw [hJQ, zup_self, zup_ne (by omega), hJW, zup_self]
              refine hb.1.take ⟨hok, by omega⟩ ?_
              rw [hJL, zup_ne (by omega)] at c94
              exact c94
            · rw [hJQ, zup_ne (by omega), hJW, zup_ne (by omega), hJL, zup_self]
              exact hb.2.take hok
      · have hno : ¬ okW (J0 11 2) (J0 12) (J0 13) st N i := fun q => by
          rcases h_pk with q1 | q1
          · obtain ⟨b, q2, q3⟩ := q1.2
            rw [e1, e2] at q3
            have := q.2 b q2; omega
          · rw [e1, e2] at q1
            have := pk_le2 (n := J0 11 2) (t := i) (fun b hb => (hB.2.2 b hb).1) h0 h1 N (Nat.le_refl _)
            omega
        refine gx_goto (tgt := 108) B dX0_choose_55 (by decide) ?_
        refine z_iinc (fun v => [(0, .ref (gx_ad G 11)), (1, .int (zI st)), (2, .int (zI room)), (3, .int (zI v)), (4, .int (zI pk))]) B dX0_choose_108 rfl (by decide) rfl (fun _ => rfl) (fun v3 hv3 => ?_)
        rw [show v3 = ((i + 1 : Nat) : Int) from (by omega)]
        refine gx_goto (tgt := 19) B dX0_choose_111 (by decide) ?_
        refine gx_sub [0, 1, 2, 3] rfl ?_
        refine ih (by omega) J hfr ⟨hb.1.skip (Or.inl (fun q => hno q.1)), hb.2.skip hno⟩
    · have hno : ¬ okW (J0 11 2) (J0 12) (J0 13) st N i := fun q => by
        rcases h_tw with q1 | q1
        · rw [e1, e3] at q1; exact q.1 q1.2
        · omega
      refine z_iconst B dX0_choose_37 ?_
      refine gx_goto (tgt := 47) B dX0_choose_38 (by decide) ?_
      refine z_istore (fun v => [(0, .ref (gx_ad G 11)), (1, .int (zI st)), (2, .int (zI room)), (3, .int (zI (i : Int))), (4, .int (zI v))]) B dX0_choose_47 (by decide) rfl (fun _ => rfl) (fun v hv => ?_)
      rw [hv]
      refine gx_iload B dX0_choose_49 rfl ?_
      refine z_iconst B dX0_choose_51 ?_
      refine z_icmp_ne (tgt := 58) B dX0_choose_52 (by first | decide | exact hpkB) ⟨by omega, by omega⟩ (by decide) (fun c52 => ?_) (fun c52 => ?_)
      · exact absurd c52 (by decide)
      · refine gx_goto (tgt := 108) B dX0_choose_55 (by decide) ?_
        refine z_iinc (fun v => [(0, .ref (gx_ad G 11)), (1, .int (zI st)), (2, .int (zI room)), (3, .int (zI v)), (4, .int (zI (-1)))]) B dX0_choose_108 rfl (by decide) rfl (fun _ => rfl) (fun v3 hv3 => ?_)
        rw [show v3 = ((i + 1 : Nat) : Int) from (by omega)]
        refine gx_goto (tgt := 19) B dX0_choose_111 (by decide) ?_
        refine gx_sub [0, 1, 2, 3] rfl ?_
        refine ih (by omega) J hfr ⟨hb.1.skip (Or.inl (fun q => hno q.1)), hb.2.skip hno⟩

theorem mX0_choose {l : Launch} {G : gx_G} (hG : gx_OK G 76) (J : zJ) {N : Nat} {st room : Int} (hB : BPre J N) (h0 : 0 ≤ st) (h1 : st ≤ 400) (hr0 : 0 ≤ room) (hr1 : room ≤ 400) : zMv l G yX0_choose cX0_choose 6 rmX0_choose [.ref (gx_ad G 11), .int (zI st), .int (zI room)] J (fun J' => BelN J J' N st room (2 ^ N) ∧ WFr J J') := by
  refine gx_mv hG (by decide) (Nat.le_of_ble_eq_true rfl) (fun X hla B Rt => ?_)
  subst hla
  have B : gx_B G X RX0 cX0_choose 6 rmX0_choose 76 := B
  show gx_WG G X 6 (zh J) 0 [(0, .ref (gx_ad G 11)), (1, .int (zI st)), (2, .int (zI room))] []
  refine gx_aload_n B dX0_choose_0 rfl rfl ?_
  refine z_iconst B dX0_choose_1 ?_
  refine z_puti B fw_X0_22 rfl (by decide) rfl dX0_choose_2 (fun J1 hJ1 => ?_)
  refine gx_aload_n B dX0_choose_5 rfl rfl ?_
  refine z_ldc 2147483647 B dX0_choose_6 lk_X0_52 (by decide) ?_
  refine z_puti B fw_X0_25 rfl (by decide) rfl dX0_choose_8 (fun J2 hJ2 => ?_)
  refine gx_aload_n B dX0_choose_11 rfl rfl ?_
  refine z_ldc 2147483647 B dX0_choose_12 lk_X0_52 (by decide) ?_
  refine z_puti B fw_X0_28 rfl (by decide) rfl dX0_choose_14 (fun J3 hJ3 => ?_)
  refine z_iconst B dX0_choose_17 ?_
  refine z_istore_n (fun v => [(0, .ref (gx_ad G 11)), (1, .int (zI st)), (2, .int (zI room)), (3, .int (zI v))]) B dX0_choose_18 rfl (by decide) rfl (fun _ => rfl) (fun v3 hv3 => ?_)
  rw [show v3 = ((0 : Nat) : Int) from (by omega)]
  refine lpBelC hG B hB h0 h1 hr0 hr1 Rt 0 (Nat.zero_le _) J3 (fun x k h => by rw [hJ3, zup_ne (by omega), hJ2, zup_ne (by omega), hJ1, zup_ne (by omega)]) ⟨Or.inl ⟨?_, ?_, fun t ht => by omega⟩, fun t ht => by omega, Or.inl ?_⟩
  · rw [hJ3, zup_ne (by omega), hJ2, zup_ne (by omega), hJ1, zup_self]
  · rw [hJ3, zup_ne (by omega), hJ2, zup_self]
  · rw [hJ3, zup_self]
end
section

/-- a code whose three places are buttons *)-/
def dg (y : Int) : Prop := 0 ≤ y ∧ y / 16384 ≤ 71 ∧ y / 128 % 128 ≤ 71 ∧ y % 128 ≤ 71
theorem pkA_dg {x y z : Int} (hx : bt1 x) (hy : bt1 y) (hz : bt1 z) : dg (pkA x y z) := by
  obtain ⟨h1, h2⟩ := hx
  obtain ⟨h3, h4⟩ := hy
  obtain ⟨h5, h6⟩ := hz
  unfold dg pkA
  omega
def dgL (xs : List Int) : Prop := xs ≠ [] ∧ ∀ y ∈ xs, dg y
theorem gins_ne (c : Int) (xs : List Int) : gins c xs ≠ [] := by
  intro h
  have := gins_len c xs
  rw [h, List.length_nil] at this
  omega
theorem dgL_gins {c : Int} {xs : List Int} (hc : dg c) (h : ∀ y ∈ xs, dg y) : dgL (gins c xs) := ⟨gins_ne c xs, fun y hy => by
  rcases oi_mem (List.mem_of_mem_take hy) with e | e
  · rw [e]; exact hc
  · exact h y e⟩
theorem dgL_add {f z : Int} (hf : bt1 f) (hz : bt1 z) : ∀ (ls : List Int) {xs : List Int}, (∀ l ∈ ls, bt1 l) → (∀ y ∈ xs, dg y) → (∀ y ∈ addLows f z ls xs, dg y) ∧ (ls ≠ [] ∨ xs ≠ [] → addLows f z ls xs ≠ [])
  | [], xs, _, h => ⟨h, fun q => q.elim (fun q => absurd rfl q) (fun q => q)⟩
  | l :: ls, xs, hl, h => by
    have hd := dgL_gins (pkA_dg (hl l List.mem_cons_self) hf hz) h
    have := dgL_add hf hz ls (xs := gins (pkA l f z) xs) (fun q hq => hl q (List.mem_cons_of_mem _ hq)) hd.2
    exact ⟨this.1, fun _ => this.2 (Or.inr hd.1)⟩
theorem dgL_off {r f z : Int} {ls : List Int} {s : GSt} (hf : bt1 f) (hz : bt1 z) (hl : ∀ l ∈ ls, bt1 l) (hn : ls ≠ []) (h : dgL s.2 ∨ r < s.1) : dgL (offS r f z ls s).2 := by
  rcases Int.lt_trichotomy r s.1 with h1 | h1 | h1
  · rw [offS_lt hn h1]
    have := dgL_add hf hz ls (xs := []) hl (fun y hy => by cases hy)
    exact ⟨this.2 (Or.inl hn), this.1⟩
  · rw [offS_same h1]
    rcases h with h | h
    · have := dgL_add hf hz ls hl h.2
      exact ⟨this.2 (Or.inl hn), this.1⟩
    · omega
  · rw [offS_gt h1]
    rcases h with h | h
    · exact h
    · omega
theorem dgL_sgl {w base : Int} {ls : List Int} (hl : ∀ l ∈ ls, bt1 l) (hn : ls ≠ []) : ∀ (bs : List Nat) {s : GSt}, (∀ a ∈ bs, a < 72) → dgL s.2 → dgL (sglS w base ls s bs).2
  | [], _, _, h => h
  | a :: bs, s, hb, h => dgL_sgl hl hn bs (fun x hx => hb x (List.mem_cons_of_mem _ hx)) (dgL_off (by decide) (by have := hb a List.mem_cons_self; exact ⟨by omega, by omega⟩) hl hn (Or.inl h))
theorem dgL_in {w base : Int} {ls : List Int} (hl : ∀ l ∈ ls, bt1 l) (hn : ls ≠ []) {a : Nat} (ha : a < 72) : ∀ (bs : List Nat) {s : GSt}, (∀ a ∈ bs, a < 72) → dgL s.2 → dgL (inS w base ls a s bs).2
  | [], _, _, h => h
  | b :: bs, s, hb, h => dgL_in hl hn ha bs (fun x hx => hb x (List.mem_cons_of_mem _ hx)) (dgL_off ⟨by omega, by omega⟩ (by have := hb b List.mem_cons_self; exact ⟨by omega, by omega⟩) hl hn (Or.inl h))
theorem dgL_pr {w base : Int} {ls : List Int} (hl : ∀ l ∈ ls, bt1 l) (hn : ls ≠ []) : ∀ (bs : List Nat) {s : GSt}, (∀ a ∈ bs, a < 72) → dgL s.2 → dgL (prS w base ls s bs).2
  | [], _, _, h => h
  | a :: bs, s, hb, h => dgL_pr hl hn bs (fun x hx => hb x (List.mem_cons_of_mem _ hx)) (dgL_in hl hn (hb a List.mem_cons_self) bs (fun x hx => hb x (List.mem_cons_of_mem _ hx)) h)
theorem gF_dg (w base rows low : Int) : dgL (gF w base rows low).2 := dgL_pr (gls_bt _ _ _) (gls_ne _ _ _) _ (fun a ha => (cblN_mem ha).1) (dgL_sgl (gls_bt _ _ _) (gls_ne _ _ _) _ (fun a ha => (cblN_mem ha).1) (dgL_off (by decide) (by decide) (gls_bt _ _ _) (gls_ne _ _ _) (Or.inr (by have := rnk_le (w := w) (n := 0) (b := 0) (by omega) (by omega); show rnk w 0 0 < 2147483647; omega))))
theorem gsize_le (w base rows low : Int) : 0 ≤ gsize w base rows low ∧ gsize w base rows low ≤ 3 := by
  have h := gF_rkd w base rows low
  obtain ⟨h1, h2, h3⟩ := h
  unfold gsize bz
  split <;> omega
theorem gF_len (w base rows low : Int) : 1 ≤ (gF w base rows low).2.length ∧ (gF w base rows low).2.length ≤ 20 := by
  refine ⟨?_, (gF_ok w base rows low).1.2.1⟩
  have := (gF_dg w base rows low).1
  cases h : (gF w base rows low).2 with
  | nil => exact absurd h this
  | cons x t => simp
theorem dig_val {n c : Int} {i m : Nat} (h0 : 0 ≤ c) (h1 : c < 2097152) (hm : m ≤ 2) (hi : n - 1 - (i : Int) = m) : digZ n c i = c / 128 ^ m % 128 := by
  obtain ⟨k, rfl⟩ := Int.eq_ofNat_of_zero_le h0
  unfold digZ
  rw [hi]
  have e : zshr (k : Int) (7 * (m : Int)) = ((k / 2 ^ (7 * m) : Nat) : Int) := by
    have := zshr_nat (a := k) (k := 7 * m) (by omega) (by omega)
    rw [← this]; push_cast; rfl
  have hle : k / 2 ^ (7 * m) ≤ k := Nat.div_le_self _ _
  rw [e, zand127 (Int.natCast_nonneg _) (by have h9 : ((k / 2 ^ (7 * m) : Nat) : Int) ≤ k := by exact_mod_cast hle
                                            omega)]
  rw [show (2 : Nat) ^ (7 * m) = 128 ^ m by rw [Nat.pow_mul]]
  push_cast
  rfl
theorem dig_le71 {n c : Int} {i : Nat} (h0 : dg c) (h1 : c < 2097152) (hn : n ≤ 3) (hi : (i : Int) < n) : digZ n c i ≤ 71 := by
  obtain ⟨m, hm⟩ : ∃ m : Nat, n - 1 - (i : Int) = m := ⟨(n - 1 - (i : Int)).toNat, by omega⟩
  rw [dig_val h0.1 h1 (m := m) (by omega) hm]
  obtain ⟨d0, d1, d2, d3⟩ := h0
  match m, (show m ≤ 2 by omega) with
  | 0, _ => simpa using d3
  | 1, _ => simpa using d2
  | 2, _ => have : c / 128 ^ 2 % 128 = c / 16384 := by omega
            rw [this]; exact d1
/-- what stands in the cells of a beat's good settings -/
theorem GoodsAt.le {J : zJ} {g : Nat} {w base rows low : Int} (h : GoodsAt J g w base rows low) : 1 ≤ J g 1 ∧ J g 1 ≤ 20 ∧ 0 ≤ J g 2 ∧ J g 2 ≤ 3 ∧ ∀ k : Nat, (k : Int) < J g 1 → (0 ≤ J (g + 1) k ∧ J (g + 1) k < 2097152) ∧ ∀ i : Nat, (i : Int) < J g 2 → digZ (J g 2) (J (g + 1) k) i ≤ 71 := by
  obtain ⟨⟨h1, h2⟩, h3, h4, h5⟩ := h
  have hl := gF_len w base rows low
  have hz := gsize_le w base rows low
  refine ⟨by omega, by omega, by omega, by omega, fun k hk => ?_⟩
  have hk2 : k < (gF w base rows low).2.length := by omega
  have ho := okL_at (gF_ok w base rows low).1 hk2
  have hd : dg ((gF w base rows low).2.getD k 0) := by
    rw [List.getD_eq_getElem?_getD, List.getElem?_eq_getElem hk2]
    exact (gF_dg w base rows low).2 _ (List.getElem_mem hk2)
  rw [h2 k hk2]
  exact ⟨ho, fun i hi => dig_le71 hd ho.2 (by omega) hi⟩
theorem Lrn.pre {J : zJ} {a n : Nat} {base rows : Int} {ch lo : Nat → Int} (h : Lrn J a base rows n ch lo) (hn : n ≤ 8) : HPre J a n := ⟨hn, fun b hb => by have := (h.2 b hb).le; exact ⟨this.1, this.2.1, this.2.2.1, this.2.2.2.1⟩⟩
theorem HandOK.ch {J : zJ} {a n b : Nat} (h : HandOK J a n) (hP : HPre J a n) (hb : b < n) : (0 ≤ J (a + 5) b ∧ J (a + 5) b < 20) ∧ J (a + 5) b = (hch J a b : Int) ∧ (hch J a b : Int) < J (a + 15 + 2 * b) 1 := by
  have h1 := (h.2.1 b hb).1
  have h2 := (h.2.1 b hb).2
  have hc := hP.ct hb
  have e : J (a + 5) b = (hch J a b : Int) := by unfold hch; omega
  refine ⟨h1, e, ?_⟩
  by_cases hs : 0 < hsz J a b
  · have := (h2.2 hs).1; omega
  · have := h2.1 hs; omega
theorem orN_le {f : Nat → Int} : ∀ {n : Nat}, (∀ k, k < n → 0 ≤ f k ∧ f k ≤ 4095) → 0 ≤ orN f n ∧ orN f n ≤ 4095
  | 0, _ => by simp [orN]
  | n + 1, h => by
    have h1 := orN_le (n := n) (fun k hk => h k (by omega))
    have h2 := h n (by omega)
    exact zor_le h1.1 h1.2 h2.1 h2.2
theorem hnt_le {J : zJ} {a n b : Nat} {base rows : Int} {ch lo : Nat → Int} (h : Lrn J a base rows n ch lo) (hb0 : 0 ≤ base) (hb1 : base < 12) (hH : HandOK J a n) (hn : n ≤ 8) (hb : b < n) : 0 ≤ hnt J a b ∧ hnt J a b ≤ 4095 := by
  have hg := (h.2 b hb).le
  have hc := hH.ch (h.pre hn) hb
  unfold hnt
  refine orN_le (fun i hi => ?_)
  have hd := (hg.2.2.2.2 (hch J a b) hc.2.2).2 i (by omega)
  have hd0 := dig_le (J (a + 15 + 2 * b) 2) (J (a + 15 + 2 * b + 1) (hch J a b)) i
  have := h.1.1 (digZ (J (a + 15 + 2 * b) 2) (J (a + 15 + 2 * b + 1) (hch J a b)) i).toNat (by omega)
  rw [show a + 2 = a + 1 + 1 by omega, this]
  exact ntc_le hb0 hb1 (by omega)
/-- a desk's numbers are as they may be -/
def VD (J : zJ) (d n : Nat) : Prop := (0 ≤ J d 0 ∧ J d 0 < 12) ∧ (0 ≤ J d 1 ∧ J d 1 ≤ 63) ∧ (1 ≤ J d 2 ∧ J d 2 ≤ 3) ∧ (1 ≤ J d 3 ∧ J d 3 ≤ 400) ∧ (0 ≤ J d 4 ∧ J d 4 ≤ J d 3) ∧ DPre J d n ∧ ∀ b, b < n → (1 ≤ J (d + 3) b ∧ J (d + 3) b ≤ 8) ∧ (0 ≤ J (d + 4) b ∧ J (d + 4) b ≤ 3)
def useZ (J : zJ) (a : Nat) (b : Nat) : Int := J 4 b * J 1 2 * ones (hnt J a b)
theorem use_le {J : zJ} {n b : Nat} (h : VD J 1 n) (hb : b < n) (a : Nat) : 0 ≤ useZ J a b ∧ useZ J a b ≤ 300 := by
  obtain ⟨h1, h2, h3, h4, h5, h6, h7⟩ := h
  have hl := (h7 b hb).1
  have ho := ones_le (hnt J a b)
  have hl' : 1 ≤ J 4 b ∧ J 4 b ≤ 8 := hl
  have hp : 0 ≤ J 4 b * J 1 2 ∧ J 4 b * J 1 2 ≤ 24 := by
    have e : J 1 2 = 1 ∨ J 1 2 = 2 ∨ J 1 2 = 3 := by omega
    rcases e with e | e | e <;> rw [e] <;> omega
  unfold useZ
  refine ⟨Int.mul_nonneg hp.1 ho.1, ?_⟩
  calc J 4 b * J 1 2 * ones (hnt J a b) ≤ 24 * 12 := Int.mul_le_mul hp.2 ho.2 ho.1 (by omega)
    _ ≤ 300 := by omega


abbrev UFr (J J' : zJ) : Prop := ∀ x k, ¬ (x = 11 ∧ k = 2) → x ≠ 12 → x ≠ 13 → J' x k = J x k
theorem hnt_congr {J J' : zJ} {a b : Nat} (h2 : ∀ k, J' (a + 2) k = J (a + 2) k) (h5 : J' (a + 5) b = J (a + 5) b) (hg : ∀ k, J' (a + 15 + 2 * b) k = J (a + 15 + 2 * b) k) (hg1 : ∀ k, J' (a + 15 + 2 * b + 1) k = J (a + 15 + 2 * b + 1) k) : hnt J' a b = hnt J a b := by
  have e : hch J' a b = hch J a b := by unfold hch; rw [h5]
  unfold hnt
  rw [e, hg, hg1]
  congr 1
  funext i
  rw [h2]
theorem Lrn.keep {J J' : zJ} {a n : Nat} {base rows : Int} {ch lo : Nat → Int} (h : Lrn J a base rows n ch lo) (e : ∀ x k, (a + 1 ≤ x ∧ x ≤ a + 3 ∨ a + 15 ≤ x ∧ x ≤ a + 30) → J' x k = J x k) (hn : n ≤ 8) : Lrn J' a base rows n ch lo := ⟨h.1.keep (e _ _ (by omega)) (fun k => e _ _ (by omega)) (fun k => e _ _ (by omega)), fun b hb => (h.2 b hb).keep (fun k => e _ _ (by omega)) (fun k => e _ _ (by omega))⟩
theorem HandOK.keep {J J' : zJ} {a n : Nat} (h : HandOK J a n) (e : ∀ x k, a ≤ x ∧ x ≤ a + 30 → J' x k = J x k) (hn : n ≤ 8) : HandOK J' a n := by
  have e1 : ∀ b, b < 8 → hsz J' a b = hsz J a b := fun b hb => e _ _ (by omega)
  have e2 : ∀ b, b < 8 → hct J' a b = hct J a b := fun b hb => by unfold hct; rw [e _ _ (by omega)]
  have e3 : ∀ b, b < 8 → ∀ k, hpl J' a b k = hpl J a b k := fun b hb k => by unfold hpl; rw [e _ _ (by omega), e _ _ (by omega)]
  have e4 : ∀ b, b < 8 → ∀ k, htc J' a b k = htc J a b k := fun b hb k => e _ _ (by omega)
  have e5 : ∀ b, hch J' a b = hch J a b := fun b => by unfold hch; rw [e _ _ (by omega)]
  have e6 : ∀ b, b ≤ 8 → pvF (hsz J' a) b = pvF (hsz J a) b := by
    intro b
    induction b with
    | zero => intro _; rfl
    | succ b ih => intro hb; show (if 0 < hsz J' a b then _ else _) = (if 0 < hsz J a b then _ else _); rw [e1 b (by omega), ih (by omega)]
  have e7 : ∀ b, b < 8 → ∀ k, jf (hpl J' a) (hch J' a) (pvF (hsz J' a) b) b k = jf (hpl J a) (hch J a) (pvF (hsz J a) b) b k := by
    intro b hb k
    unfold jf
    rw [e6 b (by omega)]
    rcases pvF_lt (s := hsz J a) b with q | q
    · rw [if_pos q, if_pos q]
    · rw [if_neg (by omega), if_neg (by omega), e5, e3 _ (by omega), e3 b hb]
  have e8 : ∀ m, m ≤ 8 → ∀ b m', isNx (hsz J' a) m b m' ↔ isNx (hsz J a) m b m' := by
    intro m hm b m'
    constructor
    · rintro ⟨a1, a2, a3, a4⟩
      exact ⟨a1, a2, fun x h1 h2 => by rw [← e1 x (by omega)]; exact a3 x h1 h2, fun h1 => by rw [← e1 m' (by omega)]; exact a4 h1⟩
    · rintro ⟨a1, a2, a3, a4⟩
      exact ⟨a1, a2, fun x h1 h2 => by rw [e1 x (by omega)]; exact a3 x h1 h2, fun h1 => by rw [e1 m' (by omega)]; exact a4 h1⟩
  obtain ⟨h1, h2, h3⟩ := h
  refine ⟨fun x hx => ?_, fun b hb => ⟨?_, ?_, ?_⟩, ?_⟩
  · intro h0 k hk
    rw [e1 x (by omega)] at h0
    rw [e2 x (by omega)] at hk
    have h4 := h1 x hx h0 k hk
    rw [e4 x (by omega)]
    refine ⟨h4.1, fun m hm => ?_⟩
    have h5 := h4.2 m ((e8 n hn _ _).mp hm)
    refine ⟨h5.1, fun hmn => ?_⟩
    have h6 := h5.2 hmn
    rw [e2 m (by omega)]
    have ef : (fun j => absZ (hpl J' a x k - hpl J' a m j) + htc J' a m j) = (fun j => absZ (hpl J a x k - hpl J a m j) + htc J a m j) := funext fun j => by rw [e3 x (by omega), e3 m (by omega), e4 m (by omega)]
    rw [ef]; exact h6
  · rw [e _ _ (by omega)]; exact (h2 b hb).1
  · rw [e1 b (by omega), e5]; exact (h2 b hb).2.1
  · rw [e1 b (by omega), e5, e2 b (by omega)]
    intro h0
    have h4 := (h2 b hb).2.2 h0
    have ef : (fun k => jf (hpl J' a) (hch J' a) (pvF (hsz J' a) b) b k + htc J' a b k) = (fun k => jf (hpl J a) (hch J a) (pvF (hsz J a) b) b k + htc J a b k) := funext fun k => by rw [e7 b (by omega), e4 b (by omega)]
    rw [ef]; exact h4
  · rw [e _ _ (by omega), h3]
    have : ∀ m, m ≤ n → jsum (hsz J a) (hpl J a) (hch J a) m = jsum (hsz J' a) (hpl J' a) (hch J' a) m := by
      intro m
      induction m with
      | zero => intro _; rfl
      | succ m ih =>
        intro hm
        show jsum _ _ _ m + (if 0 < hsz J a m then jf (hpl J a) (hch J a) (pvF (hsz J a) m) m (hch J a m) else 0) = jsum _ _ _ m + (if 0 < hsz J' a m then jf (hpl J' a) (hch J' a) (pvF (hsz J' a) m) m (hch J' a m) else 0)
        rw [ih (by omega), e1 m (by omega), e5, e7 m (by omega)]
    exact this n (Nat.le_refl _)

theorem lpLoad {G : gx_G} {X : gx_X} (hG : gx_OK G 76) (B : gx_B G X RX0 cX0_load 4 rmX0_load 76) {J0 : zJ} {n : Nat} (hV : VD J0 1 n) (hL : Lrn J0 14 (J0 1 0) (J0 1 1) n (J0 2) (J0 3)) (hH : HandOK J0 14 n) (Rt : gx_Rv G X (zpv (fun J' => J' 11 2 = (n : Int) ∧ (∀ b, b < n → J' 12 b = useZ J0 14 b ∧ J' 13 b = J0 5 b) ∧ UFr J0 J'))) : ∀ i : Nat, i ≤ n → ∀ (J : zJ), J 11 2 = (n : Int) → (∀ b, b < i → J 12 b = useZ J0 14 b ∧ J 13 b = J0 5 b) → UFr J0 J → gx_WG G X 4 (zh J) 10 [(0, .ref (gx_ad G 11)), (1, .ref (gx_ad G 1)), (2, .ref (gx_ad G 14)), (3, .int (zI (i : Int)))] [] := by
  refine up_ind (fun i hi ih => ?_)
  intro J h2 hu hfr
  have h8 := hV.2.2.2.2.2.1.2.1
  have hL1 : Lrn J 14 (J0 1 0) (J0 1 1) n (J0 2) (J0 3) := hL.keep (fun x k h => hfr x k (by omega) (by omega) (by omega)) h8
  have hH1 : HandOK J 14 n := hH.keep (fun x k h => hfr x k (by omega) (by omega) (by omega)) h8
  refine gx_iload_n B dX0_load_10 rfl rfl ?_
  refine gx_aload_n B dX0_load_11 rfl rfl ?_
  refine z_geti B fl_X0_18 rfl (by decide) rfl dX0_load_12 ?_
  refine z_icmp_ge (tgt := 62) B dX0_load_15 ⟨by omega, by omega⟩ ⟨by omega, by omega⟩ (by decide) (fun c15 => ?_) (fun c15 => ?_)
  · refine z_ret B Rt dX0_load_62 ?_
    obtain rfl : i = n := by omega
    exact ⟨h2, hu, hfr⟩
  · have hg := (hL1.2 i (by omega)).le
    have hc := hH1.ch (hL1.pre h8) (b := i) (by omega)
    have hle := hnt_le hL1 hV.1.1 hV.1.2 hH1 h8 (b := i) (by omega)
    have en : hnt J 14 i = hnt J0 14 i := hnt_congr (fun k => hfr _ _ (by omega) (by omega) (by omega)) (hfr _ _ (by omega) (by omega) (by omega)) (fun k => hfr _ _ (by omega) (by omega) (by omega)) (fun k => hfr _ _ (by omega) (by omega) (by omega))
    refine gx_aload_n B dX0_load_18 rfl rfl ?_
    refine gx_getr (t := 12) B fl_X0_9 rfl (by decide) rfl dX0_load_19 ?_
    refine gx_iload_n B dX0_load_22 rfl rfl ?_
    refine gx_aload_n B dX0_load_23 rfl rfl ?_
    refine gx_getr (t := 4) B fl_X0_34 (kDesk pD1) (bDesk pD1) (rDesk8 pD1) dX0_load_24 ?_
    refine gx_iload_n B dX0_load_27 rfl rfl ?_
    refine z_iald i B (aDesk3 pD1) (cDesk3 pD1) rfl (show i < 8 by omega) (by decide) dX0_load_28 ?_
    refine gx_aload_n B dX0_load_29 rfl rfl ?_
    refine z_geti B fl_X0_37 (kDesk pD1) (bDesk pD1) (zDesk2 pD1) dX0_load_30 ?_
    refine z_imul B dX0_load_33 ?_
    refine gx_aload_n B dX0_load_34 rfl rfl ?_
    refine gx_iload_n B dX0_load_35 rfl rfl ?_
    refine z_callVi [.int (zI (i : Int))] B lv_X0_40 (mX4_notesOf hG pH0 J (b := i) (by omega) hg.2.2.1 hg.2.2.2.1 hc.1.1 hc.1.2 (fun q hq => (hg.2.2.2.2 (hch J 14 i) hc.2.2).2 q hq)) (kHand pH0) (bHand pH0) rfl rfl (Nat.le_of_ble_eq_true rfl) (by decide) (by decide) dX0_load_36 (fun r2 J1 hJ1 => ?_)
    rw [show r2 = hnt J 14 i from hJ1.1, hJ1.2]
    refine z_callSi [.int (zI (hnt J 14 i))] B ls_X0_46 (mJ6_bitCount hG J (x := hnt J 14 i)) rfl rfl (Nat.le_of_ble_eq_true rfl) (by decide) (by decide) dX0_load_39 (fun r4 J3 hJ3 => ?_)
    rw [show r4 = bcZ (hnt J 14 i) from hJ3.1, hJ3.2]
    rw [show bcZ (hnt J 14 i) = ones (hnt J 14 i) from (bc_eq hle.1 hle.2)]
    refine z_imul B dX0_load_42 ?_
    refine z_iast i B rfl (by decide) rfl (show i < 8 by omega) (by decide) dX0_load_43 (fun JU hJU => ?_)
    refine gx_aload_n B dX0_load_44 rfl rfl ?_
    refine gx_getr (t := 13) B fl_X0_15 rfl (by decide) rfl dX0_load_45 ?_
    refine gx_iload_n B dX0_load_48 rfl rfl ?_
    refine gx_aload_n B dX0_load_49 rfl rfl ?_
    refine gx_getr (t := 5) B fl_X0_51 (kDesk pD1) (bDesk pD1) (rDesk9 pD1) dX0_load_50 ?_
    refine gx_iload_n B dX0_load_53 rfl rfl ?_
    refine z_iald i B (aDesk4 pD1) (cDesk4 pD1) rfl (show i < 8 by omega) (by decide) dX0_load_54 ?_
    refine z_iast i B rfl (by decide) rfl (show i < 8 by omega) (by decide) dX0_load_55 (fun JM hJM => ?_)
    refine z_iinc (fun v => [(0, .ref (gx_ad G 11)), (1, .ref (gx_ad G 1)), (2, .ref (gx_ad G 14)), (3, .int (zI v))]) B dX0_load_56 rfl (by decide) rfl (fun _ => rfl) (fun v3 hv3 => ?_)
    rw [show v3 = ((i + 1 : Nat) : Int) from (by omega)]
    refine gx_goto (tgt := 10) B dX0_load_59 (by decide) ?_
    refine ih (by omega) JM (by rw [hJM, zup_ne (by omega), hJU, zup_ne (by omega)]; exact h2) (fun b hb => ?_) (fun x k q1 q2 q3 => by rw [hJM, zup_ne (by omega), hJU, zup_ne (by omega)]; exact hfr x k q1 q2 q3)
    by_cases e : b = i
    · subst e
      constructor
      · rw [hJM, zup_ne (by omega), hJU, zup_self, en, hfr 4 b (by omega) (by omega) (by omega), hfr 1 2 (by omega) (by omega) (by omega)]; rfl
      · rw [hJM, zup_self, hJU, zup_ne (by omega), hfr 5 b (by omega) (by omega) (by omega)]
    · rw [hJM, zup_ne (by omega), zup_ne (by omega), hJU, zup_ne (by omega), zup_ne (by omega)]; exact hu b (by omega)

theorem mX0_load {l : Launch} {G : gx_G} (hG : gx_OK G 76) (J : zJ) {n : Nat} (hV : VD J 1 n) (hL : Lrn J 14 (J 1 0) (J 1 1) n (J 2) (J 3)) (hH : HandOK J 14 n) : zMv l G yX0_load cX0_load 4 rmX0_load [.ref (gx_ad G 11), .ref (gx_ad G 1), .ref (gx_ad G 14)] J (fun J' => J' 11 2 = (n : Int) ∧ (∀ b, b < n → J' 12 b = useZ J 14 b ∧ J' 13 b = J 5 b) ∧ UFr J J') := by
  refine gx_mv hG (by decide) (Nat.le_of_ble_eq_true rfl) (fun X hla B Rt => ?_)
  subst hla
  have B : gx_B G X RX0 cX0_load 4 rmX0_load 76 := B
  show gx_WG G X 4 (zh J) 0 [(0, .ref (gx_ad G 11)), (1, .ref (gx_ad G 1)), (2, .ref (gx_ad G 14))] []
  refine gx_aload_n B dX0_load_0 rfl rfl ?_
  refine gx_aload_n B dX0_load_1 rfl rfl ?_
  refine z_geti B fl_X0_31 (kDesk pD1) (bDesk pD1) (zDesk5 pD1) dX0_load_2 ?_
  refine z_puti B fw_X0_18 rfl (by decide) rfl dX0_load_5 (fun J1 hJ1 => ?_)
  refine z_iconst B dX0_load_8 ?_
  refine z_istore_n (fun v => [(0, .ref (gx_ad G 11)), (1, .ref (gx_ad G 1)), (2, .ref (gx_ad G 14)), (3, .int (zI v))]) B dX0_load_9 rfl (by decide) rfl (fun _ => rfl) (fun v3 hv3 => ?_)
  rw [show v3 = ((0 : Nat) : Int) from (by omega)]
  exact lpLoad hG B hV hL hH Rt 0 (by omega) J1 (by rw [hJ1, zup_self]; exact hV.2.2.2.2.2.1.1) (fun b hb => by omega) (fun x k q1 q2 q3 => by rw [hJ1, zup_ne (by omega)])
end
section

def wrD (J : zJ) (d b : Nat) (c l n m : Int) : zJ := zup (zup (zup (zup J (d + 1) b c) (d + 2) b l) (d + 3) b n) (d + 4) b m
def cpyN (J : zJ) (d s i : Nat) : zJ := fun x k => if x = d ∧ k < 6 then J s k else if d + 1 ≤ x ∧ x ≤ d + 4 ∧ k < i then J (s + (x - d)) k else J x k
theorem cpy_step {J : zJ} {d s i : Nat} (hds : d + 4 < s ∨ s + 4 < d) : wrD (cpyN J d s i) d i (cpyN J d s i (s + 1) i) (cpyN J d s i (s + 2) i) (cpyN J d s i (s + 3) i) (cpyN J d s i (s + 4) i) = cpyN J d s (i + 1) := by
  have e : ∀ j, 1 ≤ j → j ≤ 4 → cpyN J d s i (s + j) i = J (s + j) i := fun j h1 h2 => by
    unfold cpyN
    rw [if_neg (by omega), if_neg (by omega)]
  rw [e 1 (by omega) (by omega), e 2 (by omega) (by omega), e 3 (by omega) (by omega), e 4 (by omega) (by omega)]
  funext x k
  unfold wrD
  by_cases h4 : x = d + 4 ∧ k = i
  · obtain ⟨rfl, rfl⟩ := h4
    rw [zup_self]
    unfold cpyN
    rw [if_neg (by omega), if_pos (by omega), show d + 4 - d = 4 by omega]
  · rw [zup_ne h4]
    by_cases h3 : x = d + 3 ∧ k = i
    · obtain ⟨rfl, rfl⟩ := h3
      rw [zup_self]
      unfold cpyN
      rw [if_neg (by omega), if_pos (by omega), show d + 3 - d = 3 by omega]
    · rw [zup_ne h3]
      by_cases h2 : x = d + 2 ∧ k = i
      · obtain ⟨rfl, rfl⟩ := h2
        rw [zup_self]
        unfold cpyN
        rw [if_neg (by omega), if_pos (by omega), show d + 2 - d = 2 by omega]
      · rw [zup_ne h2]
        by_cases h1 : x = d + 1 ∧ k = i
        · obtain ⟨rfl, rfl⟩ := h1
          rw [zup_self]
          unfold cpyN
          rw [if_neg (by omega), if_pos (by omega), show d + 1 - d = 1 by omega]
        · rw [zup_ne h1]
          unfold cpyN
          by_cases q : x = d ∧ k < 6
          · rw [if_pos q, if_pos q]
          · rw [if_neg q, if_neg q]
            by_cases q2 : d + 1 ≤ x ∧ x ≤ d + 4 ∧ k < i
            · rw [if_pos q2, if_pos (by omega)]
            · rw [if_neg q2, if_neg (by omega)]
theorem cpy_start {J : zJ} {d s : Nat} (hds : d + 4 < s ∨ s + 4 < d) : zup (zup (zup (zup (zup (zup J d 0 (J s 0)) d 1 (J s 1)) d 2 (J s 2)) d 3 (J s 3)) d 4 (J s 4)) d 5 (J s 5) = cpyN J d s 0 := by
  funext x k
  unfold cpyN
  by_cases q : x = d ∧ k < 6
  · obtain ⟨rfl, hk⟩ := q
    rw [if_pos ⟨rfl, hk⟩]
    have : k = 0 ∨ k = 1 ∨ k = 2 ∨ k = 3 ∨ k = 4 ∨ k = 5 := by omega
    rcases this with rfl | rfl | rfl | rfl | rfl | rfl <;> simp [zup]
  · rw [if_neg q, if_neg (by omega), zup_ne (by omega), zup_ne (by omega), zup_ne (by omega), zup_ne (by omega), zup_ne (by omega), zup_ne (by omega)]
theorem ds_ne {d s : Nat} (hd : isDesk d) (hs : isDesk s) (h : d ≠ s) : d + 4 < s ∨ s + 4 < d := by
  rcases hd with rfl | rfl <;> rcases hs with rfl | rfl <;> omega

theorem mX2_write {lx : Launch} {G : gx_G} (hG : gx_OK G 76) {d b : Nat} (hd : isDesk d) (J : zJ) (hb : b < 8) {c l n m : Int} : zMv lx G yX2_write cX2_write 6 rmX2_write [.ref (gx_ad G d), .int (zI (b : Int)), .int (zI c), .int (zI l), .int (zI n), .int (zI m)] J (fun J' => J' = wrD J d b c l n m) := by
  refine gx_mv hG (by decide) (Nat.le_of_ble_eq_true rfl) (fun X hla B Rt => ?_)
  subst hla
  have B : gx_B G X RX2 cX2_write 6 rmX2_write 76 := B
  show gx_WG G X 6 (zh J) 0 [(0, .ref (gx_ad G d)), (1, .int (zI (b : Int))), (2, .int (zI c)), (3, .int (zI l)), (4, .int (zI n)), (5, .int (zI m))] []
  refine gx_aload_n B dX2_write_0 rfl rfl ?_
  refine gx_getr (t := (d + 1)) B fl_X2_30 (kDesk hd) (bDesk hd) (rDesk6 hd) dX2_write_1 ?_
  refine gx_iload_n B dX2_write_4 rfl rfl ?_
  refine gx_iload_n B dX2_write_5 rfl rfl ?_
  refine z_iast b B (aDesk1 hd) (cDesk1 hd) rfl hb (by decide) dX2_write_6 (fun J1 hJ1 => ?_)
  refine gx_aload_n B dX2_write_7 rfl rfl ?_
  refine gx_getr (t := (d + 2)) B fl_X2_34 (kDesk hd) (bDesk hd) (rDesk7 hd) dX2_write_8 ?_
  refine gx_iload_n B dX2_write_11 rfl rfl ?_
  refine gx_iload_n B dX2_write_12 rfl rfl ?_
  refine z_iast b B (aDesk2 hd) (cDesk2 hd) rfl hb (by decide) dX2_write_13 (fun J2 hJ2 => ?_)
  refine gx_aload_n B dX2_write_14 rfl rfl ?_
  refine gx_getr (t := (d + 3)) B fl_X2_37 (kDesk hd) (bDesk hd) (rDesk8 hd) dX2_write_15 ?_
  refine gx_iload_n B dX2_write_18 rfl rfl ?_
  refine gx_iload B dX2_write_19 rfl ?_
  refine z_iast b B (aDesk3 hd) (cDesk3 hd) rfl hb (by decide) dX2_write_21 (fun J3 hJ3 => ?_)
  refine gx_aload_n B dX2_write_22 rfl rfl ?_
  refine gx_getr (t := (d + 4)) B fl_X2_40 (kDesk hd) (bDesk hd) (rDesk9 hd) dX2_write_23 ?_
  refine gx_iload_n B dX2_write_26 rfl rfl ?_
  refine gx_iload B dX2_write_27 rfl ?_
  refine z_iast b B (aDesk4 hd) (cDesk4 hd) rfl hb (by decide) dX2_write_29 (fun J4 hJ4 => ?_)
  refine z_ret B Rt dX2_write_30 ?_
  rw [hJ4, hJ3, hJ2, hJ1]
  rfl

theorem lpCpy {G : gx_G} {X : gx_X} (hG : gx_OK G 76) (B : gx_B G X RX2 cX2_copyFrom 3 rmX2_copyFrom 76) {d s : Nat} (hd : isDesk d) (hs : isDesk s) {J : zJ} (hds : d + 4 < s ∨ s + 4 < d) (Rt : gx_Rv G X (zpv (fun J' => J' = cpyN J d s 8))) : ∀ i : Nat, i ≤ 8 → gx_WG G X 3 (zh (cpyN J d s i)) 50 [(0, .ref (gx_ad G d)), (1, .ref (gx_ad G s)), (2, .int (zI (i : Int)))] [] := by
  refine up_ind (fun i hi ih => ?_)
  refine gx_iload_n B dX2_copyFrom_50 rfl rfl ?_
  refine z_bipush B dX2_copyFrom_51 (by decide) ?_
  refine z_icmp_ge (tgt := 91) B dX2_copyFrom_53 ⟨by omega, by omega⟩ ⟨by omega, by omega⟩ (by decide) (fun c53 => ?_) (fun c53 => ?_)
  · refine z_ret B Rt dX2_copyFrom_91 ?_
    rw [show i = 8 by omega]
  · refine gx_aload_n B dX2_copyFrom_56 rfl rfl ?_
    refine gx_iload_n B dX2_copyFrom_57 rfl rfl ?_
    refine gx_aload_n B dX2_copyFrom_58 rfl rfl ?_
    refine gx_getr (t := (s + 1)) B fl_X2_30 (kDesk hs) (bDesk hs) (rDesk6 hs) dX2_copyFrom_59 ?_
    refine gx_iload_n B dX2_copyFrom_62 rfl rfl ?_
    refine z_iald i B (aDesk1 hs) (cDesk1 hs) rfl (show i < 8 by omega) (by decide) dX2_copyFrom_63 ?_
    refine gx_aload_n B dX2_copyFrom_64 rfl rfl ?_
    refine gx_getr (t := (s + 2)) B fl_X2_34 (kDesk hs) (bDesk hs) (rDesk7 hs) dX2_copyFrom_65 ?_
    refine gx_iload_n B dX2_copyFrom_68 rfl rfl ?_
    refine z_iald i B (aDesk2 hs) (cDesk2 hs) rfl (show i < 8 by omega) (by decide) dX2_copyFrom_69 ?_
    refine gx_aload_n B dX2_copyFrom_70 rfl rfl ?_
    refine gx_getr (t := (s + 3)) B fl_X2_37 (kDesk hs) (bDesk hs) (rDesk8 hs) dX2_copyFrom_71 ?_
    refine gx_iload_n B dX2_copyFrom_74 rfl rfl ?_
    refine z_iald i B (aDesk3 hs) (cDesk3 hs) rfl (show i < 8 by omega) (by decide) dX2_copyFrom_75 ?_
    refine gx_aload_n B dX2_copyFrom_76 rfl rfl ?_
    refine gx_getr (t := (s + 4)) B fl_X2_40 (kDesk hs) (bDesk hs) (rDesk9 hs) dX2_copyFrom_77 ?_
    refine gx_iload_n B dX2_copyFrom_80 rfl rfl ?_
    refine z_iald i B (aDesk4 hs) (cDesk4 hs) rfl (show i < 8 by omega) (by decide) dX2_copyFrom_81 ?_
    refine z_callVv [.int (zI (i : Int)), .int (zI ((cpyN J d s i) (s + 1) i)), .int (zI ((cpyN J d s i) (s + 2) i)), .int (zI ((cpyN J d s i) (s + 3) i)), .int (zI ((cpyN J d s i) (s + 4) i))] B lv_X2_43 (mX2_write hG hd (cpyN J d s i) (b := i) (by omega) (c := (cpyN J d s i) (s + 1) i) (l := (cpyN J d s i) (s + 2) i) (n := (cpyN J d s i) (s + 3) i) (m := (cpyN J d s i) (s + 4) i)) (kDesk hd) (bDesk hd) rfl rfl (Nat.le_of_ble_eq_true rfl) (by decide) (by decide) dX2_copyFrom_82 (fun J1 hJ1 => ?_)
    refine z_iinc (fun v => [(0, .ref (gx_ad G d)), (1, .ref (gx_ad G s)), (2, .int (zI v))]) B dX2_copyFrom_85 rfl (by decide) rfl (fun _ => rfl) (fun v2 hv2 => ?_)
    rw [show v2 = ((i + 1 : Nat) : Int) from (by omega)]
    refine gx_goto (tgt := 50) B dX2_copyFrom_88 (by decide) ?_
    rw [hJ1, cpy_step hds]
    exact ih (by omega)

theorem mX2_copyFrom {l : Launch} {G : gx_G} (hG : gx_OK G 76) {d s : Nat} (hd : isDesk d) (hs : isDesk s) (hne : d ≠ s) (J : zJ) : zMv l G yX2_copyFrom cX2_copyFrom 3 rmX2_copyFrom [.ref (gx_ad G d), .ref (gx_ad G s)] J (fun J' => J' = cpyN J d s 8) := by
  refine gx_mv hG (by decide) (Nat.le_of_ble_eq_true rfl) (fun X hla B Rt => ?_)
  subst hla
  have B : gx_B G X RX2 cX2_copyFrom 3 rmX2_copyFrom 76 := B
  show gx_WG G X 3 (zh J) 0 [(0, .ref (gx_ad G d)), (1, .ref (gx_ad G s))] []
  refine gx_aload_n B dX2_copyFrom_0 rfl rfl ?_
  refine gx_aload_n B dX2_copyFrom_1 rfl rfl ?_
  refine z_geti B fl_X2_9 (kDesk hs) (bDesk hs) (zDesk0 hs) dX2_copyFrom_2 ?_
  refine z_puti B fw_X2_9 (kDesk hd) (bDesk hd) (zDesk0 hd) dX2_copyFrom_5 (fun J1 hJ1 => ?_)
  refine gx_aload_n B dX2_copyFrom_8 rfl rfl ?_
  refine gx_aload_n B dX2_copyFrom_9 rfl rfl ?_
  refine z_geti B fl_X2_15 (kDesk hs) (bDesk hs) (zDesk1 hs) dX2_copyFrom_10 ?_
  refine z_puti B fw_X2_15 (kDesk hd) (bDesk hd) (zDesk1 hd) dX2_copyFrom_13 (fun J2 hJ2 => ?_)
  refine gx_aload_n B dX2_copyFrom_16 rfl rfl ?_
  refine gx_aload_n B dX2_copyFrom_17 rfl rfl ?_
  refine z_geti B fl_X2_18 (kDesk hs) (bDesk hs) (zDesk2 hs) dX2_copyFrom_18 ?_
  refine z_puti B fw_X2_18 (kDesk hd) (bDesk hd) (zDesk2 hd) dX2_copyFrom_21 (fun J3 hJ3 => ?_)
  refine gx_aload_n B dX2_copyFrom_24 rfl rfl ?_
  refine gx_aload_n B dX2_copyFrom_25 rfl rfl ?_
  refine z_geti B fl_X2_21 (kDesk hs) (bDesk hs) (zDesk3 hs) dX2_copyFrom_26 ?_
  refine z_puti B fw_X2_21 (kDesk hd) (bDesk hd) (zDesk3 hd) dX2_copyFrom_29 (fun J4 hJ4 => ?_)
  refine gx_aload_n B dX2_copyFrom_32 rfl rfl ?_
  refine gx_aload_n B dX2_copyFrom_33 rfl rfl ?_
  refine z_geti B fl_X2_24 (kDesk hs) (bDesk hs) (zDesk4 hs) dX2_copyFrom_34 ?_
  refine z_puti B fw_X2_24 (kDesk hd) (bDesk hd) (zDesk4 hd) dX2_copyFrom_37 (fun J5 hJ5 => ?_)
  refine gx_aload_n B dX2_copyFrom_40 rfl rfl ?_
  refine gx_aload_n B dX2_copyFrom_41 rfl rfl ?_
  refine z_geti B fl_X2_27 (kDesk hs) (bDesk hs) (zDesk5 hs) dX2_copyFrom_42 ?_
  refine z_puti B fw_X2_27 (kDesk hd) (bDesk hd) (zDesk5 hd) dX2_copyFrom_45 (fun J6 hJ6 => ?_)
  refine z_iconst B dX2_copyFrom_48 ?_
  refine z_istore_n (fun v => [(0, .ref (gx_ad G d)), (1, .ref (gx_ad G s)), (2, .int (zI v))]) B dX2_copyFrom_49 rfl (by decide) rfl (fun _ => rfl) (fun v2 hv2 => ?_)
  rw [show v2 = ((0 : Nat) : Int) from (by omega)]
  have hds := ds_ne hd hs hne
  have e : J6 = cpyN J d s 0 := by
    rw [← cpy_start hds, hJ6, hJ5, zup_ne (by omega), hJ4, zup_ne (by omega), zup_ne (by omega), hJ3, zup_ne (by omega), zup_ne (by omega), zup_ne (by omega), hJ2, zup_ne (by omega), zup_ne (by omega), zup_ne (by omega), zup_ne (by omega), hJ1, zup_ne (by omega), zup_ne (by omega), zup_ne (by omega), zup_ne (by omega), zup_ne (by omega)]
  rw [e]
  exact lpCpy hG B hd hs hds Rt 0 (by omega)


def BelOK (J : zJ) (n : Nat) : Prop := J 11 2 = (n : Int) ∧ (∀ b, b < n → J 12 b = useZ J 14 b ∧ J 13 b = J 5 b) ∧ BelN J J n (J 1 4) (J 1 3) (2 ^ n)
def Settled (J : zJ) (n : Nat) : Prop := Lrn J 14 (J 1 0) (J 1 1) n (J 2) (J 3) ∧ HandOK J 14 n ∧ BelOK J n
theorem VD.keep {J J' : zJ} {d n : Nat} (h : VD J d n) (e : ∀ x k, d ≤ x → x ≤ d + 4 → J' x k = J x k) : VD J' d n := by
  unfold VD DPre
  have e0 : ∀ k, J' d k = J d k := fun k => e d k (by omega) (by omega)
  have e1 : ∀ k, J' (d + 1) k = J (d + 1) k := fun k => e _ k (by omega) (by omega)
  have e2 : ∀ k, J' (d + 2) k = J (d + 2) k := fun k => e _ k (by omega) (by omega)
  have e3 : ∀ k, J' (d + 3) k = J (d + 3) k := fun k => e _ k (by omega) (by omega)
  have e4 : ∀ k, J' (d + 4) k = J (d + 4) k := fun k => e _ k (by omega) (by omega)
  simp only [e0, e1, e2, e3, e4]
  exact h
theorem useZ_congr {J J' : zJ} {b : Nat} (e : ∀ x k, x ≤ 10 ∨ 14 ≤ x → J' x k = J x k) : useZ J' 14 b = useZ J 14 b := by
  unfold useZ
  rw [e 4 b (by omega), e 1 2 (by omega), hnt_congr (fun k => e _ k (by omega)) (e _ _ (by omega)) (fun k => e _ k (by omega)) (fun k => e _ k (by omega))]
theorem BPre.of {J J1 : zJ} {n : Nat} (hV : VD J 1 n) (h2 : J1 11 2 = (n : Int)) (hu : ∀ b, b < n → J1 12 b = useZ J 14 b ∧ J1 13 b = J 5 b) : BPre J1 n := ⟨h2, hV.2.2.2.2.2.1.2.1, fun b hb => by
  rw [(hu b hb).1, (hu b hb).2]
  exact ⟨use_le hV hb 14, (hV.2.2.2.2.2.2 b hb).2⟩⟩
theorem settle_fin {J J1 J2 : zJ} {n : Nat} (hV : VD J 1 n) (hL : Lrn J 14 (J 1 0) (J 1 1) n (J 2) (J 3)) (hH : HandOK J 14 n) (h1 : J1 11 2 = (n : Int) ∧ (∀ b, b < n → J1 12 b = useZ J 14 b ∧ J1 13 b = J 5 b) ∧ UFr J J1) (h2 : BelN J1 J2 n (J1 1 4) (J1 1 3) (2 ^ n) ∧ WFr J1 J2) : Settled J2 n ∧ ∀ x k, ¬ (11 ≤ x ∧ x ≤ 13) → J2 x k = J x k := by
  have fr : ∀ x k, ¬ (11 ≤ x ∧ x ≤ 13) → J2 x k = J x k := fun x k h => by rw [h2.2 x k (by omega), h1.2.2 x k (by omega) (by omega) (by omega)]
  have h8 := hV.2.2.2.2.2.1.2.1
  obtain ⟨e1, e2, e3⟩ := h2.2.fun
  refine ⟨⟨?_, hH.keep (fun x k h => fr x k (by omega)) h8, ?_⟩, fr⟩
  · rw [fr 1 0 (by omega), fr 1 1 (by omega), show J2 2 = J 2 from funext fun k => fr 2 k (by omega), show J2 3 = J 3 from funext fun k => fr 3 k (by omega)]
    exact hL.keep (fun x k h => fr x k (by omega)) h8
  · refine ⟨by rw [e1]; exact h1.1, fun b hb => ?_, ?_⟩
    · rw [e2, e3, useZ_congr (fun x k h => fr x k (by omega)), fr 5 b (by omega)]
      exact h1.2.1 b hb
    · have := h2.1
      rw [h1.2.2 1 4 (by omega) (by omega) (by omega), h1.2.2 1 3 (by omega) (by omega) (by omega)] at this
      rw [fr 1 4 (by omega), fr 1 3 (by omega)]
      unfold BelN at this ⊢
      rw [e1, e2, e3]
      exact this

theorem mX5_settleBellows {l : Launch} {G : gx_G} (hG : gx_OK G 76) (J : zJ) {n : Nat} (hV : VD J 1 n) (hL : Lrn J 14 (J 1 0) (J 1 1) n (J 2) (J 3)) (hH : HandOK J 14 n) : zMv l G yX5_settleBellows cX5_settleBellows 1 rmX5_settleBellows [.ref (gx_ad G 0)] J (fun J' => Settled J' n ∧ ∀ x k, ¬ (11 ≤ x ∧ x ≤ 13) → J' x k = J x k) := by
  refine gx_mv hG (by decide) (Nat.le_of_ble_eq_true rfl) (fun X hla B Rt => ?_)
  subst hla
  have B : gx_B G X RX5 cX5_settleBellows 1 rmX5_settleBellows 76 := B
  show gx_WG G X 1 (zh J) 0 [(0, .ref (gx_ad G 0))] []
  refine gx_aload_n B dX5_settleBellows_0 rfl rfl ?_
  refine gx_getr (t := 11) B fl_X5_36 rfl (by decide) rfl dX5_settleBellows_1 ?_
  refine gx_aload_n B dX5_settleBellows_4 rfl rfl ?_
  refine gx_getr (t := 1) B fl_X5_10 rfl (by decide) rfl dX5_settleBellows_5 ?_
  refine gx_aload_n B dX5_settleBellows_8 rfl rfl ?_
  refine gx_getr (t := 14) B fl_X5_26 rfl (by decide) rfl dX5_settleBellows_9 ?_
  refine z_callVv [.ref (gx_ad G 1), .ref (gx_ad G 14)] B lv_X5_209 (mX0_load hG J hV hL hH) rfl (by decide) rfl rfl (Nat.le_of_ble_eq_true rfl) (by decide) (by decide) dX5_settleBellows_12 (fun J1 hJ1 => ?_)
  have f4 := hJ1.2.2 1 4 (by omega) (by omega) (by omega)
  have f3 := hJ1.2.2 1 3 (by omega) (by omega) (by omega)
  obtain ⟨v1, v2, v3, v4, v5, v6, v7⟩ := id hV
  refine gx_aload_n B dX5_settleBellows_15 rfl rfl ?_
  refine gx_getr (t := 11) B fl_X5_36 rfl (by decide) rfl dX5_settleBellows_16 ?_
  refine gx_aload_n B dX5_settleBellows_19 rfl rfl ?_
  refine gx_getr (t := 1) B fl_X5_10 rfl (by decide) rfl dX5_settleBellows_20 ?_
  refine z_geti B fl_X5_163 (kDesk pD1) (bDesk pD1) (zDesk4 pD1) dX5_settleBellows_23 ?_
  refine gx_aload_n B dX5_settleBellows_26 rfl rfl ?_
  refine gx_getr (t := 1) B fl_X5_10 rfl (by decide) rfl dX5_settleBellows_27 ?_
  refine z_geti B fl_X5_202 (kDesk pD1) (bDesk pD1) (zDesk3 pD1) dX5_settleBellows_30 ?_
  refine z_callVv [.int (zI (J1 1 4)), .int (zI (J1 1 3))] B lv_X5_213 (mX0_choose hG J1 (N := n) (st := J1 1 4) (room := J1 1 3) (BPre.of hV hJ1.1 hJ1.2.1) (by omega) (by omega) (by omega) (by omega)) rfl (by decide) rfl rfl (Nat.le_of_ble_eq_true rfl) (by decide) (by decide) dX5_settleBellows_33 (fun J2 hJ2 => ?_)
  refine z_ret B Rt dX5_settleBellows_36 ?_
  exact settle_fin hV hL hH hJ1 hJ2

theorem mX5_settleHand {l : Launch} {G : gx_G} (hG : gx_OK G 76) (J : zJ) {n : Nat} (hV : VD J 1 n) (hL : Lrn J 14 (J 1 0) (J 1 1) n (J 2) (J 3)) : zMv l G yX5_settleHand cX5_settleHand 1 rmX5_settleHand [.ref (gx_ad G 0)] J (fun J' => Settled J' n ∧ ∀ x k, ¬ (11 ≤ x ∧ x ≤ 44) → J' x k = J x k) := by
  refine gx_mv hG (by decide) (Nat.le_of_ble_eq_true rfl) (fun X hla B Rt => ?_)
  subst hla
  have B : gx_B G X RX5 cX5_settleHand 1 rmX5_settleHand 76 := B
  show gx_WG G X 1 (zh J) 0 [(0, .ref (gx_ad G 0))] []
  refine gx_aload_n B dX5_settleHand_0 rfl rfl ?_
  refine gx_getr (t := 14) B fl_X5_26 rfl (by decide) rfl dX5_settleHand_1 ?_
  refine gx_aload_n B dX5_settleHand_4 rfl rfl ?_
  refine gx_getr (t := 1) B fl_X5_10 rfl (by decide) rfl dX5_settleHand_5 ?_
  refine z_geti B fl_X5_86 (kDesk pD1) (bDesk pD1) (zDesk5 pD1) dX5_settleHand_8 ?_
  rw [show J 1 5 = (n : Int) from hV.2.2.2.2.2.1.1]
  refine z_callVv [.int (zI (n : Int))] B lv_X5_143 (mX4_choose hG pH0 J (n := n) (hL.pre hV.2.2.2.2.2.1.2.1)) (kHand pH0) (bHand pH0) rfl rfl (Nat.le_of_ble_eq_true rfl) (by decide) (by decide) dX5_settleHand_11 (fun J1 hJ1 => ?_)
  have fr1 : ∀ x k, ¬ (14 ≤ x ∧ x ≤ 44) → J1 x k = J x k := fun x k h => hJ1.2 x k (by omega) (by omega) (by omega)
  have hL1 : Lrn J1 14 (J1 1 0) (J1 1 1) n (J1 2) (J1 3) := by
    rw [fr1 1 0 (by omega), fr1 1 1 (by omega), show J1 2 = J 2 from funext fun k => fr1 2 k (by omega), show J1 3 = J 3 from funext fun k => fr1 3 k (by omega)]
    exact hL.keep (fun x k h => hJ1.2 x k (by omega) (by omega) (by omega)) hV.2.2.2.2.2.1.2.1
  refine gx_aload_n B dX5_settleHand_14 rfl rfl ?_
  refine z_callVv [] B lv_X5_199 (mX5_settleBellows hG J1 (n := n) (hV.keep (fun x k h1 h2 => fr1 x k (by omega))) hL1 hJ1.1) rfl (by decide) rfl rfl (Nat.le_of_ble_eq_true rfl) (by decide) (by decide) dX5_settleHand_15 (fun J2 hJ2 => ?_)
  refine z_ret B Rt dX5_settleHand_18 ?_
  exact ⟨hJ2.1, fun x k h => by rw [hJ2.2 x k (by omega), fr1 x k (by omega)]⟩

theorem mX5_settleBeat {l : Launch} {G : gx_G} (hG : gx_OK G 76) (J : zJ) {n b : Nat} (hV : VD J 1 n) (hb : b < n) (hT : Tuned J 15 (J 1 0) (J 1 1)) (hL : ∀ x, x < n → x ≠ b → GoodsAt J (14 + 15 + 2 * x) (J 2 x) (J 1 0) (J 1 1) (J 3 x)) : zMv l G yX5_settleBeat cX5_settleBeat 2 rmX5_settleBeat [.ref (gx_ad G 0), .int (zI (b : Int))] J (fun J' => Settled J' n ∧ ∀ x k, ¬ (11 ≤ x ∧ x ≤ 44) → J' x k = J x k) := by
  refine gx_mv hG (by decide) (Nat.le_of_ble_eq_true rfl) (fun X hla B Rt => ?_)
  subst hla
  have B : gx_B G X RX5 cX5_settleBeat 2 rmX5_settleBeat 76 := B
  show gx_WG G X 2 (zh J) 0 [(0, .ref (gx_ad G 0)), (1, .int (zI (b : Int)))] []
  have h8 := hV.2.2.2.2.2.1.2.1
  have hdb := hV.2.2.2.2.2.1.2.2 b hb
  refine gx_aload_n B dX5_settleBeat_0 rfl rfl ?_
  refine gx_getr (t := 14) B fl_X5_26 rfl (by decide) rfl dX5_settleBeat_1 ?_
  refine gx_getr (t := 18) B fl_X5_113 (kHand pH0) (bHand pH0) (rHand1 pH0) dX5_settleBeat_4 ?_
  refine gx_iload_n B dX5_settleBeat_7 rfl rfl ?_
  refine z_aald b (14 + 15 + 2 * b) B (kHg pH0) (cHg pH0) rfl (show b < 8 by omega) (by decide) (rHg pH0 (show b < 8 by omega)) dX5_settleBeat_8 ?_
  refine gx_aload_n B dX5_settleBeat_9 rfl rfl ?_
  refine gx_getr (t := 14) B fl_X5_26 rfl (by decide) rfl dX5_settleBeat_10 ?_
  refine gx_getr (t := 15) B fl_X5_58 (kHand pH0) (bHand pH0) (rHand0 pH0) dX5_settleBeat_13 ?_
  refine gx_aload_n B dX5_settleBeat_16 rfl rfl ?_
  refine gx_getr (t := 1) B fl_X5_10 rfl (by decide) rfl dX5_settleBeat_17 ?_
  refine gx_getr (t := 2) B fl_X5_101 (kDesk pD1) (bDesk pD1) (rDesk6 pD1) dX5_settleBeat_20 ?_
  refine gx_iload_n B dX5_settleBeat_23 rfl rfl ?_
  refine z_iald b B (aDesk1 pD1) (cDesk1 pD1) rfl (show b < 8 by omega) (by decide) dX5_settleBeat_24 ?_
  refine gx_aload_n B dX5_settleBeat_25 rfl rfl ?_
  refine gx_getr (t := 1) B fl_X5_10 rfl (by decide) rfl dX5_settleBeat_26 ?_
  refine gx_getr (t := 3) B fl_X5_104 (kDesk pD1) (bDesk pD1) (rDesk7 pD1) dX5_settleBeat_29 ?_
  refine gx_iload_n B dX5_settleBeat_32 rfl rfl ?_
  refine z_iald b B (aDesk2 pD1) (cDesk2 pD1) rfl (show b < 8 by omega) (by decide) dX5_settleBeat_33 ?_
  refine z_callVv [.ref (gx_ad G 15), .int (zI (J 2 b)), .int (zI (J 3 b))] B lv_X5_205 (mX3_find hG (gdH pH0 (show b < 8 by omega)) (bdH pH0) J (base := J 1 0) (rows := J 1 1) (chord := J 2 b) (low := J 3 b) hV.1.1 hV.1.2 hdb.1.1 hdb.1.2 hdb.2.1 hdb.2.2 hT) (kGoods (gdH pH0 (show b < 8 by omega))) (bGoods (gdH pH0 (show b < 8 by omega))) rfl rfl (Nat.le_of_ble_eq_true rfl) (by decide) (by decide) dX5_settleBeat_34 (fun J1 hJ1 => ?_)
  have fr1 : ∀ x k, ¬ (29 ≤ x ∧ x ≤ 44) → J1 x k = J x k := fun x k h => hJ1.2 x k (by omega) (by omega)
  have hL1 : Lrn J1 14 (J1 1 0) (J1 1 1) n (J1 2) (J1 3) := by
    rw [fr1 1 0 (by omega), fr1 1 1 (by omega), show J1 2 = J 2 from funext fun k => fr1 2 k (by omega), show J1 3 = J 3 from funext fun k => fr1 3 k (by omega)]
    refine ⟨hT.keep (fr1 _ _ (by omega)) (fun k => fr1 _ _ (by omega)) (fun k => fr1 _ _ (by omega)), fun x hx => ?_⟩
    by_cases e : x = b
    · rw [e]; exact hJ1.1
    · exact (hL x hx e).keep (fun k => hJ1.2 _ _ (by omega) (by omega)) (fun k => hJ1.2 _ _ (by omega) (by omega))
  refine gx_aload_n B dX5_settleBeat_37 rfl rfl ?_
  refine z_callVv [] B lv_X5_51 (mX5_settleHand hG J1 (n := n) (hV.keep (fun x k h1 h2 => fr1 x k (by omega))) hL1) rfl (by decide) rfl rfl (Nat.le_of_ble_eq_true rfl) (by decide) (by decide) dX5_settleBeat_38 (fun J2 hJ2 => ?_)
  refine z_ret B Rt dX5_settleBeat_41 ?_
  exact ⟨hJ2.1, fun x k h => by rw [hJ2.2 x k h, fr1 x k (by omega)]⟩
end
