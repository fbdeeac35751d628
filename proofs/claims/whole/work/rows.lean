section
-- ===== PART A: goes FIRST, ahead of the names: the tables' words, and 'selects' of the private methods out of them =====
/-- a private method of a class that the tables say can be made, by its rows of tables_1 -/
def lw_okq (q : MethodName × Nat) : Prop := (q.1.cls ≠ "java/lang/invoke/MethodHandle" ∧ q.1.cls ≠ "java/lang/invoke/VarHandle") ∧ Cond.instantiable q.1.cls q.2 ∈ tables_1 ∧ Cond.privateMethod q.1 ∈ tables_1 ∧ Cond.instanceMethod q.1 ∈ tables_1
theorem lw_p0 : lw_okq (⟨"CallSigns$Book", "readItem", "(I)I"⟩, 13) := ⟨⟨by decide +kernel, by decide +kernel⟩, List.mem_of_getElem? (i := 76) (by decide +kernel), List.mem_of_getElem? (i := 444) (by decide +kernel), List.mem_of_getElem? (i := 445) (by decide +kernel)⟩
theorem lw_p1 : lw_okq (⟨"CallSigns$Book", "readNumber", "(II)I"⟩, 13) := ⟨⟨by decide +kernel, by decide +kernel⟩, List.mem_of_getElem? (i := 76) (by decide +kernel), List.mem_of_getElem? (i := 451) (by decide +kernel), List.mem_of_getElem? (i := 452) (by decide +kernel)⟩
theorem lw_p2 : lw_okq (⟨"CallSigns$Book", "isFigure", "(I)Z"⟩, 13) := ⟨⟨by decide +kernel, by decide +kernel⟩, List.mem_of_getElem? (i := 76) (by decide +kernel), List.mem_of_getElem? (i := 455) (by decide +kernel), List.mem_of_getElem? (i := 456) (by decide +kernel)⟩
theorem lw_p3 : lw_okq (⟨"CallSigns$Book", "isSound", "(I)Z"⟩, 13) := ⟨⟨by decide +kernel, by decide +kernel⟩, List.mem_of_getElem? (i := 76) (by decide +kernel), List.mem_of_getElem? (i := 459) (by decide +kernel), List.mem_of_getElem? (i := 460) (by decide +kernel)⟩
theorem lw_p4 : lw_okq (⟨"CallSigns$Book", "addItem", "(I)V"⟩, 13) := ⟨⟨by decide +kernel, by decide +kernel⟩, List.mem_of_getElem? (i := 76) (by decide +kernel), List.mem_of_getElem? (i := 468) (by decide +kernel), List.mem_of_getElem? (i := 469) (by decide +kernel)⟩
theorem lw_p5 : lw_okq (⟨"CallSigns$Book", "goOn", "(I)V"⟩, 13) := ⟨⟨by decide +kernel, by decide +kernel⟩, List.mem_of_getElem? (i := 76) (by decide +kernel), List.mem_of_getElem? (i := 480) (by decide +kernel), List.mem_of_getElem? (i := 481) (by decide +kernel)⟩
theorem lw_p6 : lw_okq (⟨"CallSigns$Book", "stepAt", "(I)I"⟩, 13) := ⟨⟨by decide +kernel, by decide +kernel⟩, List.mem_of_getElem? (i := 76) (by decide +kernel), List.mem_of_getElem? (i := 484) (by decide +kernel), List.mem_of_getElem? (i := 485) (by decide +kernel)⟩
theorem lw_p7 : lw_okq (⟨"CallSigns$Book", "changePlaces", "(I)V"⟩, 13) := ⟨⟨by decide +kernel, by decide +kernel⟩, List.mem_of_getElem? (i := 76) (by decide +kernel), List.mem_of_getElem? (i := 488) (by decide +kernel), List.mem_of_getElem? (i := 489) (by decide +kernel)⟩
theorem lw_p8 : lw_okq (⟨"CallSigns$Book", "tellPosts", "(I)V"⟩, 13) := ⟨⟨by decide +kernel, by decide +kernel⟩, List.mem_of_getElem? (i := 76) (by decide +kernel), List.mem_of_getElem? (i := 495) (by decide +kernel), List.mem_of_getElem? (i := 496) (by decide +kernel)⟩
theorem lw_p9 : lw_okq (⟨"CallSigns", "isCall", "(I)Z"⟩, 15) := ⟨⟨by decide +kernel, by decide +kernel⟩, List.mem_of_getElem? (i := 19) (by decide +kernel), List.mem_of_getElem? (i := 518) (by decide +kernel), List.mem_of_getElem? (i := 519) (by decide +kernel)⟩
theorem lw_p10 : lw_okq (⟨"CallSigns$Hands", "joinUpward", "()V"⟩, 3) := ⟨⟨by decide +kernel, by decide +kernel⟩, List.mem_of_getElem? (i := 132) (by decide +kernel), List.mem_of_getElem? (i := 527) (by decide +kernel), List.mem_of_getElem? (i := 528) (by decide +kernel)⟩
theorem lw_p11 : lw_okq (⟨"CallSigns$Hands", "spreadDownward", "()V"⟩, 3) := ⟨⟨by decide +kernel, by decide +kernel⟩, List.mem_of_getElem? (i := 132) (by decide +kernel), List.mem_of_getElem? (i := 534) (by decide +kernel), List.mem_of_getElem? (i := 535) (by decide +kernel)⟩
theorem lw_p12 : lw_okq (⟨"CallSigns$Pairing", "findBests", "()V"⟩, 8) := ⟨⟨by decide +kernel, by decide +kernel⟩, List.mem_of_getElem? (i := 150) (by decide +kernel), List.mem_of_getElem? (i := 617) (by decide +kernel), List.mem_of_getElem? (i := 618) (by decide +kernel)⟩
theorem lw_p13 : lw_okq (⟨"CallSigns$Pairing", "bestFrom", "(II)I"⟩, 8) := ⟨⟨by decide +kernel, by decide +kernel⟩, List.mem_of_getElem? (i := 150) (by decide +kernel), List.mem_of_getElem? (i := 622) (by decide +kernel), List.mem_of_getElem? (i := 623) (by decide +kernel)⟩
theorem lw_p14 : lw_okq (⟨"CallSigns$Pairing", "sumWith", "(III)I"⟩, 8) := ⟨⟨by decide +kernel, by decide +kernel⟩, List.mem_of_getElem? (i := 150) (by decide +kernel), List.mem_of_getElem? (i := 626) (by decide +kernel), List.mem_of_getElem? (i := 627) (by decide +kernel)⟩
theorem lw_p15 : lw_okq (⟨"CallSigns$Pairing", "choose", "()V"⟩, 8) := ⟨⟨by decide +kernel, by decide +kernel⟩, List.mem_of_getElem? (i := 150) (by decide +kernel), List.mem_of_getElem? (i := 633) (by decide +kernel), List.mem_of_getElem? (i := 634) (by decide +kernel)⟩
def lw_privs_1 : List (MethodName × Nat) := [(⟨"CallSigns$Book", "readItem", "(I)I"⟩, 13), (⟨"CallSigns$Book", "readNumber", "(II)I"⟩, 13), (⟨"CallSigns$Book", "isFigure", "(I)Z"⟩, 13), (⟨"CallSigns$Book", "isSound", "(I)Z"⟩, 13), (⟨"CallSigns$Book", "addItem", "(I)V"⟩, 13), (⟨"CallSigns$Book", "goOn", "(I)V"⟩, 13), (⟨"CallSigns$Book", "stepAt", "(I)I"⟩, 13), (⟨"CallSigns$Book", "changePlaces", "(I)V"⟩, 13), (⟨"CallSigns$Book", "tellPosts", "(I)V"⟩, 13), (⟨"CallSigns", "isCall", "(I)Z"⟩, 15), (⟨"CallSigns$Hands", "joinUpward", "()V"⟩, 3), (⟨"CallSigns$Hands", "spreadDownward", "()V"⟩, 3), (⟨"CallSigns$Pairing", "findBests", "()V"⟩, 8), (⟨"CallSigns$Pairing", "bestFrom", "(II)I"⟩, 8), (⟨"CallSigns$Pairing", "sumWith", "(III)I"⟩, 8), (⟨"CallSigns$Pairing", "choose", "()V"⟩, 8)]
theorem lw_r1 : ∀ q ∈ lw_privs_1, lw_okq q := List.forall_mem_cons.mpr ⟨lw_p0, List.forall_mem_cons.mpr ⟨lw_p1, List.forall_mem_cons.mpr ⟨lw_p2, List.forall_mem_cons.mpr ⟨lw_p3, List.forall_mem_cons.mpr ⟨lw_p4, List.forall_mem_cons.mpr ⟨lw_p5, List.forall_mem_cons.mpr ⟨lw_p6, List.forall_mem_cons.mpr ⟨lw_p7, List.forall_mem_cons.mpr ⟨lw_p8, List.forall_mem_cons.mpr ⟨lw_p9, List.forall_mem_cons.mpr ⟨lw_p10, List.forall_mem_cons.mpr ⟨lw_p11, List.forall_mem_cons.mpr ⟨lw_p12, List.forall_mem_cons.mpr ⟨lw_p13, List.forall_mem_cons.mpr ⟨lw_p14, List.forall_mem_cons.mpr ⟨lw_p15, fun _ h => absurd h List.not_mem_nil⟩⟩⟩⟩⟩⟩⟩⟩⟩⟩⟩⟩⟩⟩⟩⟩
theorem lw_p16 : lw_okq (⟨"CallSigns$Pairing", "firstChoice", "(II)I"⟩, 8) := ⟨⟨by decide +kernel, by decide +kernel⟩, List.mem_of_getElem? (i := 150) (by decide +kernel), List.mem_of_getElem? (i := 638) (by decide +kernel), List.mem_of_getElem? (i := 639) (by decide +kernel)⟩
theorem lw_p17 : lw_okq (⟨"CallSigns$Pairing", "keepsBest", "(III)Z"⟩, 8) := ⟨⟨by decide +kernel, by decide +kernel⟩, List.mem_of_getElem? (i := 150) (by decide +kernel), List.mem_of_getElem? (i := 642) (by decide +kernel), List.mem_of_getElem? (i := 643) (by decide +kernel)⟩
theorem lw_p18 : lw_okq (⟨"CallSigns$Pairing", "usedWith", "(II)I"⟩, 8) := ⟨⟨by decide +kernel, by decide +kernel⟩, List.mem_of_getElem? (i := 150) (by decide +kernel), List.mem_of_getElem? (i := 646) (by decide +kernel), List.mem_of_getElem? (i := 647) (by decide +kernel)⟩
theorem lw_p19 : lw_okq (⟨"CallSigns$Pairing", "findSure", "()V"⟩, 8) := ⟨⟨by decide +kernel, by decide +kernel⟩, List.mem_of_getElem? (i := 150) (by decide +kernel), List.mem_of_getElem? (i := 650) (by decide +kernel), List.mem_of_getElem? (i := 651) (by decide +kernel)⟩
theorem lw_p20 : lw_okq (⟨"CallSigns$Pairing", "clearReached", "()V"⟩, 8) := ⟨⟨by decide +kernel, by decide +kernel⟩, List.mem_of_getElem? (i := 150) (by decide +kernel), List.mem_of_getElem? (i := 654) (by decide +kernel), List.mem_of_getElem? (i := 655) (by decide +kernel)⟩
theorem lw_p21 : lw_okq (⟨"CallSigns$Pairing", "choicesOf", "(I)I"⟩, 8) := ⟨⟨by decide +kernel, by decide +kernel⟩, List.mem_of_getElem? (i := 150) (by decide +kernel), List.mem_of_getElem? (i := 658) (by decide +kernel), List.mem_of_getElem? (i := 659) (by decide +kernel)⟩
theorem lw_p22 : lw_okq (⟨"CallSigns$Trail", "isOpen", "()Z"⟩, 1) := ⟨⟨by decide +kernel, by decide +kernel⟩, List.mem_of_getElem? (i := 211) (by decide +kernel), List.mem_of_getElem? (i := 696) (by decide +kernel), List.mem_of_getElem? (i := 697) (by decide +kernel)⟩
theorem lw_p23 : lw_okq (⟨"CallSigns$Trail", "stepBack", "(LCallSigns$Pairing;Z)V"⟩, 1) := ⟨⟨by decide +kernel, by decide +kernel⟩, List.mem_of_getElem? (i := 211) (by decide +kernel), List.mem_of_getElem? (i := 701) (by decide +kernel), List.mem_of_getElem? (i := 702) (by decide +kernel)⟩
theorem lw_p24 : lw_okq (⟨"CallSigns", "countHeld", "(IZ)I"⟩, 15) := ⟨⟨by decide +kernel, by decide +kernel⟩, List.mem_of_getElem? (i := 19) (by decide +kernel), List.mem_of_getElem? (i := 713) (by decide +kernel), List.mem_of_getElem? (i := 714) (by decide +kernel)⟩
theorem lw_p25 : lw_okq (⟨"CallSigns$Orders", "answers", "(LCallSigns$CallLog;II)Z"⟩, 2) := ⟨⟨by decide +kernel, by decide +kernel⟩, List.mem_of_getElem? (i := 222) (by decide +kernel), List.mem_of_getElem? (i := 729) (by decide +kernel), List.mem_of_getElem? (i := 730) (by decide +kernel)⟩
theorem lw_p26 : lw_okq (⟨"CallSigns$Orders", "isTakenUp", "(LCallSigns$CallLog;II)Z"⟩, 2) := ⟨⟨by decide +kernel, by decide +kernel⟩, List.mem_of_getElem? (i := 222) (by decide +kernel), List.mem_of_getElem? (i := 733) (by decide +kernel), List.mem_of_getElem? (i := 734) (by decide +kernel)⟩
theorem lw_p27 : lw_okq (⟨"CallSigns$Orders", "passesOn", "(LCallSigns$CallLog;II)Z"⟩, 2) := ⟨⟨by decide +kernel, by decide +kernel⟩, List.mem_of_getElem? (i := 222) (by decide +kernel), List.mem_of_getElem? (i := 737) (by decide +kernel), List.mem_of_getElem? (i := 738) (by decide +kernel)⟩
theorem lw_p28 : lw_okq (⟨"CallSigns$Tree", "gather", "(I)V"⟩, 8) := ⟨⟨by decide +kernel, by decide +kernel⟩, List.mem_of_getElem? (i := 237) (by decide +kernel), List.mem_of_getElem? (i := 768) (by decide +kernel), List.mem_of_getElem? (i := 769) (by decide +kernel)⟩
theorem lw_p29 : lw_okq (⟨"CallSigns$Tree", "setHope", "()V"⟩, 8) := ⟨⟨by decide +kernel, by decide +kernel⟩, List.mem_of_getElem? (i := 237) (by decide +kernel), List.mem_of_getElem? (i := 772) (by decide +kernel), List.mem_of_getElem? (i := 773) (by decide +kernel)⟩
theorem lw_p30 : lw_okq (⟨"CallSigns$Tree", "grow", "(IIZ)V"⟩, 8) := ⟨⟨by decide +kernel, by decide +kernel⟩, List.mem_of_getElem? (i := 237) (by decide +kernel), List.mem_of_getElem? (i := 778) (by decide +kernel), List.mem_of_getElem? (i := 779) (by decide +kernel)⟩
theorem lw_p31 : lw_okq (⟨"CallSigns$Tree", "isVain", "(I)Z"⟩, 8) := ⟨⟨by decide +kernel, by decide +kernel⟩, List.mem_of_getElem? (i := 237) (by decide +kernel), List.mem_of_getElem? (i := 782) (by decide +kernel), List.mem_of_getElem? (i := 783) (by decide +kernel)⟩
def lw_privs_2 : List (MethodName × Nat) := [(⟨"CallSigns$Pairing", "firstChoice", "(II)I"⟩, 8), (⟨"CallSigns$Pairing", "keepsBest", "(III)Z"⟩, 8), (⟨"CallSigns$Pairing", "usedWith", "(II)I"⟩, 8), (⟨"CallSigns$Pairing", "findSure", "()V"⟩, 8), (⟨"CallSigns$Pairing", "clearReached", "()V"⟩, 8), (⟨"CallSigns$Pairing", "choicesOf", "(I)I"⟩, 8), (⟨"CallSigns$Trail", "isOpen", "()Z"⟩, 1), (⟨"CallSigns$Trail", "stepBack", "(LCallSigns$Pairing;Z)V"⟩, 1), (⟨"CallSigns", "countHeld", "(IZ)I"⟩, 15), (⟨"CallSigns$Orders", "answers", "(LCallSigns$CallLog;II)Z"⟩, 2), (⟨"CallSigns$Orders", "isTakenUp", "(LCallSigns$CallLog;II)Z"⟩, 2), (⟨"CallSigns$Orders", "passesOn", "(LCallSigns$CallLog;II)Z"⟩, 2), (⟨"CallSigns$Tree", "gather", "(I)V"⟩, 8), (⟨"CallSigns$Tree", "setHope", "()V"⟩, 8), (⟨"CallSigns$Tree", "grow", "(IIZ)V"⟩, 8), (⟨"CallSigns$Tree", "isVain", "(I)Z"⟩, 8)]
theorem lw_r2 : ∀ q ∈ lw_privs_2, lw_okq q := List.forall_mem_cons.mpr ⟨lw_p16, List.forall_mem_cons.mpr ⟨lw_p17, List.forall_mem_cons.mpr ⟨lw_p18, List.forall_mem_cons.mpr ⟨lw_p19, List.forall_mem_cons.mpr ⟨lw_p20, List.forall_mem_cons.mpr ⟨lw_p21, List.forall_mem_cons.mpr ⟨lw_p22, List.forall_mem_cons.mpr ⟨lw_p23, List.forall_mem_cons.mpr ⟨lw_p24, List.forall_mem_cons.mpr ⟨lw_p25, List.forall_mem_cons.mpr ⟨lw_p26, List.forall_mem_cons.mpr ⟨lw_p27, List.forall_mem_cons.mpr ⟨lw_p28, List.forall_mem_cons.mpr ⟨lw_p29, List.forall_mem_cons.mpr ⟨lw_p30, List.forall_mem_cons.mpr ⟨lw_p31, fun _ h => absurd h List.not_mem_nil⟩⟩⟩⟩⟩⟩⟩⟩⟩⟩⟩⟩⟩⟩⟩⟩
theorem lw_p32 : lw_okq (⟨"CallSigns$Tree", "weigh", "(I)V"⟩, 8) := ⟨⟨by decide +kernel, by decide +kernel⟩, List.mem_of_getElem? (i := 237) (by decide +kernel), List.mem_of_getElem? (i := 786) (by decide +kernel), List.mem_of_getElem? (i := 787) (by decide +kernel)⟩
theorem lw_p33 : lw_okq (⟨"CallSigns$Tree", "isUnder", "(II)Z"⟩, 8) := ⟨⟨by decide +kernel, by decide +kernel⟩, List.mem_of_getElem? (i := 237) (by decide +kernel), List.mem_of_getElem? (i := 790) (by decide +kernel), List.mem_of_getElem? (i := 791) (by decide +kernel)⟩
theorem lw_p34 : lw_okq (⟨"CallSigns$Tree", "memberOf", "(I)I"⟩, 8) := ⟨⟨by decide +kernel, by decide +kernel⟩, List.mem_of_getElem? (i := 237) (by decide +kernel), List.mem_of_getElem? (i := 798) (by decide +kernel), List.mem_of_getElem? (i := 799) (by decide +kernel)⟩
theorem lw_p35 : lw_okq (⟨"CallSigns$Orders", "answersAny", "(LCallSigns$CallLog;I)Z"⟩, 2) := ⟨⟨by decide +kernel, by decide +kernel⟩, List.mem_of_getElem? (i := 222) (by decide +kernel), List.mem_of_getElem? (i := 818) (by decide +kernel), List.mem_of_getElem? (i := 819) (by decide +kernel)⟩
theorem lw_p36 : lw_okq (⟨"CallSigns$Orders", "isShared", "(LCallSigns$CallLog;LCallSigns$Hands;III)Z"⟩, 2) := ⟨⟨by decide +kernel, by decide +kernel⟩, List.mem_of_getElem? (i := 222) (by decide +kernel), List.mem_of_getElem? (i := 823) (by decide +kernel), List.mem_of_getElem? (i := 824) (by decide +kernel)⟩
theorem lw_p37 : lw_okq (⟨"CallSigns$Places", "fits", "(III)Z"⟩, 11) := ⟨⟨by decide +kernel, by decide +kernel⟩, List.mem_of_getElem? (i := 269) (by decide +kernel), List.mem_of_getElem? (i := 868) (by decide +kernel), List.mem_of_getElem? (i := 869) (by decide +kernel)⟩
theorem lw_p38 : lw_okq (⟨"CallSigns$Silence", "gatherHeard", "()V"⟩, 8) := ⟨⟨by decide +kernel, by decide +kernel⟩, List.mem_of_getElem? (i := 311) (by decide +kernel), List.mem_of_getElem? (i := 921) (by decide +kernel), List.mem_of_getElem? (i := 922) (by decide +kernel)⟩
theorem lw_p39 : lw_okq (⟨"CallSignsModel", "isItem", "()Z"⟩, 46) := ⟨⟨by decide +kernel, by decide +kernel⟩, List.mem_of_getElem? (i := 987) (by decide +kernel), List.mem_of_getElem? (i := 1162) (by decide +kernel), List.mem_of_getElem? (i := 1163) (by decide +kernel)⟩
theorem lw_p40 : lw_okq (⟨"CallSignsModel", "number", "()I"⟩, 46) := ⟨⟨by decide +kernel, by decide +kernel⟩, List.mem_of_getElem? (i := 987) (by decide +kernel), List.mem_of_getElem? (i := 1166) (by decide +kernel), List.mem_of_getElem? (i := 1167) (by decide +kernel)⟩
theorem lw_p41 : lw_okq (⟨"CallSignsModel", "more", "()I"⟩, 46) := ⟨⟨by decide +kernel, by decide +kernel⟩, List.mem_of_getElem? (i := 987) (by decide +kernel), List.mem_of_getElem? (i := 1173) (by decide +kernel), List.mem_of_getElem? (i := 1174) (by decide +kernel)⟩
theorem lw_p42 : lw_okq (⟨"CallSignsModel", "behind", "(II)I"⟩, 46) := ⟨⟨by decide +kernel, by decide +kernel⟩, List.mem_of_getElem? (i := 987) (by decide +kernel), List.mem_of_getElem? (i := 1183) (by decide +kernel), List.mem_of_getElem? (i := 1184) (by decide +kernel)⟩
theorem lw_p43 : lw_okq (⟨"CallSignsModel", "postOf", "(II)I"⟩, 46) := ⟨⟨by decide +kernel, by decide +kernel⟩, List.mem_of_getElem? (i := 987) (by decide +kernel), List.mem_of_getElem? (i := 1198) (by decide +kernel), List.mem_of_getElem? (i := 1199) (by decide +kernel)⟩
theorem lw_p44 : lw_okq (⟨"CallSignsModel", "isCall", "(I)Z"⟩, 46) := ⟨⟨by decide +kernel, by decide +kernel⟩, List.mem_of_getElem? (i := 987) (by decide +kernel), List.mem_of_getElem? (i := 1210) (by decide +kernel), List.mem_of_getElem? (i := 1211) (by decide +kernel)⟩
theorem lw_p45 : lw_okq (⟨"CallSignsModel", "handsOf", "()V"⟩, 46) := ⟨⟨by decide +kernel, by decide +kernel⟩, List.mem_of_getElem? (i := 987) (by decide +kernel), List.mem_of_getElem? (i := 1214) (by decide +kernel), List.mem_of_getElem? (i := 1215) (by decide +kernel)⟩
theorem lw_p46 : lw_okq (⟨"CallSignsModel", "sends", "(II)Z"⟩, 46) := ⟨⟨by decide +kernel, by decide +kernel⟩, List.mem_of_getElem? (i := 987) (by decide +kernel), List.mem_of_getElem? (i := 1234) (by decide +kernel), List.mem_of_getElem? (i := 1235) (by decide +kernel)⟩
theorem lw_p47 : lw_okq (⟨"CallSignsModel", "isOf", "(III)Z"⟩, 46) := ⟨⟨by decide +kernel, by decide +kernel⟩, List.mem_of_getElem? (i := 987) (by decide +kernel), List.mem_of_getElem? (i := 1238) (by decide +kernel), List.mem_of_getElem? (i := 1239) (by decide +kernel)⟩
def lw_privs_3 : List (MethodName × Nat) := [(⟨"CallSigns$Tree", "weigh", "(I)V"⟩, 8), (⟨"CallSigns$Tree", "isUnder", "(II)Z"⟩, 8), (⟨"CallSigns$Tree", "memberOf", "(I)I"⟩, 8), (⟨"CallSigns$Orders", "answersAny", "(LCallSigns$CallLog;I)Z"⟩, 2), (⟨"CallSigns$Orders", "isShared", "(LCallSigns$CallLog;LCallSigns$Hands;III)Z"⟩, 2), (⟨"CallSigns$Places", "fits", "(III)Z"⟩, 11), (⟨"CallSigns$Silence", "gatherHeard", "()V"⟩, 8), (⟨"CallSignsModel", "isItem", "()Z"⟩, 46), (⟨"CallSignsModel", "number", "()I"⟩, 46), (⟨"CallSignsModel", "more", "()I"⟩, 46), (⟨"CallSignsModel", "behind", "(II)I"⟩, 46), (⟨"CallSignsModel", "postOf", "(II)I"⟩, 46), (⟨"CallSignsModel", "isCall", "(I)Z"⟩, 46), (⟨"CallSignsModel", "handsOf", "()V"⟩, 46), (⟨"CallSignsModel", "sends", "(II)Z"⟩, 46), (⟨"CallSignsModel", "isOf", "(III)Z"⟩, 46)]
theorem lw_r3 : ∀ q ∈ lw_privs_3, lw_okq q := List.forall_mem_cons.mpr ⟨lw_p32, List.forall_mem_cons.mpr ⟨lw_p33, List.forall_mem_cons.mpr ⟨lw_p34, List.forall_mem_cons.mpr ⟨lw_p35, List.forall_mem_cons.mpr ⟨lw_p36, List.forall_mem_cons.mpr ⟨lw_p37, List.forall_mem_cons.mpr ⟨lw_p38, List.forall_mem_cons.mpr ⟨lw_p39, List.forall_mem_cons.mpr ⟨lw_p40, List.forall_mem_cons.mpr ⟨lw_p41, List.forall_mem_cons.mpr ⟨lw_p42, List.forall_mem_cons.mpr ⟨lw_p43, List.forall_mem_cons.mpr ⟨lw_p44, List.forall_mem_cons.mpr ⟨lw_p45, List.forall_mem_cons.mpr ⟨lw_p46, List.forall_mem_cons.mpr ⟨lw_p47, fun _ h => absurd h List.not_mem_nil⟩⟩⟩⟩⟩⟩⟩⟩⟩⟩⟩⟩⟩⟩⟩⟩
theorem lw_p48 : lw_okq (⟨"CallSignsModel", "likeOf", "(III)I"⟩, 46) := ⟨⟨by decide +kernel, by decide +kernel⟩, List.mem_of_getElem? (i := 987) (by decide +kernel), List.mem_of_getElem? (i := 1242) (by decide +kernel), List.mem_of_getElem? (i := 1243) (by decide +kernel)⟩
theorem lw_p49 : lw_okq (⟨"CallSignsModel", "lays", "(I)I"⟩, 46) := ⟨⟨by decide +kernel, by decide +kernel⟩, List.mem_of_getElem? (i := 987) (by decide +kernel), List.mem_of_getElem? (i := 1250) (by decide +kernel), List.mem_of_getElem? (i := 1251) (by decide +kernel)⟩
theorem lw_p50 : lw_okq (⟨"CallSignsModel", "placeOf", "(I)I"⟩, 46) := ⟨⟨by decide +kernel, by decide +kernel⟩, List.mem_of_getElem? (i := 987) (by decide +kernel), List.mem_of_getElem? (i := 1254) (by decide +kernel), List.mem_of_getElem? (i := 1255) (by decide +kernel)⟩
theorem lw_p51 : lw_okq (⟨"CallSignsModel", "pairs", "()V"⟩, 46) := ⟨⟨by decide +kernel, by decide +kernel⟩, List.mem_of_getElem? (i := 987) (by decide +kernel), List.mem_of_getElem? (i := 1258) (by decide +kernel), List.mem_of_getElem? (i := 1259) (by decide +kernel)⟩
theorem lw_p52 : lw_okq (⟨"CallSignsModel", "sums", "(II)I"⟩, 46) := ⟨⟨by decide +kernel, by decide +kernel⟩, List.mem_of_getElem? (i := 987) (by decide +kernel), List.mem_of_getElem? (i := 1262) (by decide +kernel), List.mem_of_getElem? (i := 1263) (by decide +kernel)⟩
theorem lw_p53 : lw_okq (⟨"CallSignsModel", "isSure", "(I)Z"⟩, 46) := ⟨⟨by decide +kernel, by decide +kernel⟩, List.mem_of_getElem? (i := 987) (by decide +kernel), List.mem_of_getElem? (i := 1269) (by decide +kernel), List.mem_of_getElem? (i := 1270) (by decide +kernel)⟩
theorem lw_p54 : lw_okq (⟨"CallSignsModel", "traced", "(II)I"⟩, 46) := ⟨⟨by decide +kernel, by decide +kernel⟩, List.mem_of_getElem? (i := 987) (by decide +kernel), List.mem_of_getElem? (i := 1285) (by decide +kernel), List.mem_of_getElem? (i := 1286) (by decide +kernel)⟩
theorem lw_p55 : lw_okq (⟨"CallSignsModel", "fateOf", "(I)I"⟩, 46) := ⟨⟨by decide +kernel, by decide +kernel⟩, List.mem_of_getElem? (i := 987) (by decide +kernel), List.mem_of_getElem? (i := 1302) (by decide +kernel), List.mem_of_getElem? (i := 1303) (by decide +kernel)⟩
theorem lw_p56 : lw_okq (⟨"CallSignsModel", "answers", "(II)Z"⟩, 46) := ⟨⟨by decide +kernel, by decide +kernel⟩, List.mem_of_getElem? (i := 987) (by decide +kernel), List.mem_of_getElem? (i := 1306) (by decide +kernel), List.mem_of_getElem? (i := 1307) (by decide +kernel)⟩
theorem lw_p57 : lw_okq (⟨"CallSignsModel", "isBehind", "(II)Z"⟩, 46) := ⟨⟨by decide +kernel, by decide +kernel⟩, List.mem_of_getElem? (i := 987) (by decide +kernel), List.mem_of_getElem? (i := 1310) (by decide +kernel), List.mem_of_getElem? (i := 1311) (by decide +kernel)⟩
theorem lw_p58 : lw_okq (⟨"CallSignsModel", "signOf", "(IIII)I"⟩, 46) := ⟨⟨by decide +kernel, by decide +kernel⟩, List.mem_of_getElem? (i := 987) (by decide +kernel), List.mem_of_getElem? (i := 1321) (by decide +kernel), List.mem_of_getElem? (i := 1322) (by decide +kernel)⟩
theorem lw_p59 : lw_okq (⟨"CallSignsModel", "isOn", "(III)Z"⟩, 46) := ⟨⟨by decide +kernel, by decide +kernel⟩, List.mem_of_getElem? (i := 987) (by decide +kernel), List.mem_of_getElem? (i := 1325) (by decide +kernel), List.mem_of_getElem? (i := 1326) (by decide +kernel)⟩
theorem lw_p60 : lw_okq (⟨"CallSignsModel", "trees", "(II)I"⟩, 46) := ⟨⟨by decide +kernel, by decide +kernel⟩, List.mem_of_getElem? (i := 987) (by decide +kernel), List.mem_of_getElem? (i := 1334) (by decide +kernel), List.mem_of_getElem? (i := 1335) (by decide +kernel)⟩
theorem lw_p61 : lw_okq (⟨"CallSignsModel", "isTree", "(I)Z"⟩, 46) := ⟨⟨by decide +kernel, by decide +kernel⟩, List.mem_of_getElem? (i := 987) (by decide +kernel), List.mem_of_getElem? (i := 1339) (by decide +kernel), List.mem_of_getElem? (i := 1340) (by decide +kernel)⟩
theorem lw_p62 : lw_okq (⟨"CallSignsModel", "lacksOf", "(III)I"⟩, 46) := ⟨⟨by decide +kernel, by decide +kernel⟩, List.mem_of_getElem? (i := 987) (by decide +kernel), List.mem_of_getElem? (i := 1347) (by decide +kernel), List.mem_of_getElem? (i := 1348) (by decide +kernel)⟩
theorem lw_p63 : lw_okq (⟨"CallSignsModel", "fits", "(IIII)Z"⟩, 46) := ⟨⟨by decide +kernel, by decide +kernel⟩, List.mem_of_getElem? (i := 987) (by decide +kernel), List.mem_of_getElem? (i := 1377) (by decide +kernel), List.mem_of_getElem? (i := 1378) (by decide +kernel)⟩
def lw_privs_4 : List (MethodName × Nat) := [(⟨"CallSignsModel", "likeOf", "(III)I"⟩, 46), (⟨"CallSignsModel", "lays", "(I)I"⟩, 46), (⟨"CallSignsModel", "placeOf", "(I)I"⟩, 46), (⟨"CallSignsModel", "pairs", "()V"⟩, 46), (⟨"CallSignsModel", "sums", "(II)I"⟩, 46), (⟨"CallSignsModel", "isSure", "(I)Z"⟩, 46), (⟨"CallSignsModel", "traced", "(II)I"⟩, 46), (⟨"CallSignsModel", "fateOf", "(I)I"⟩, 46), (⟨"CallSignsModel", "answers", "(II)Z"⟩, 46), (⟨"CallSignsModel", "isBehind", "(II)Z"⟩, 46), (⟨"CallSignsModel", "signOf", "(IIII)I"⟩, 46), (⟨"CallSignsModel", "isOn", "(III)Z"⟩, 46), (⟨"CallSignsModel", "trees", "(II)I"⟩, 46), (⟨"CallSignsModel", "isTree", "(I)Z"⟩, 46), (⟨"CallSignsModel", "lacksOf", "(III)I"⟩, 46), (⟨"CallSignsModel", "fits", "(IIII)Z"⟩, 46)]
theorem lw_r4 : ∀ q ∈ lw_privs_4, lw_okq q := List.forall_mem_cons.mpr ⟨lw_p48, List.forall_mem_cons.mpr ⟨lw_p49, List.forall_mem_cons.mpr ⟨lw_p50, List.forall_mem_cons.mpr ⟨lw_p51, List.forall_mem_cons.mpr ⟨lw_p52, List.forall_mem_cons.mpr ⟨lw_p53, List.forall_mem_cons.mpr ⟨lw_p54, List.forall_mem_cons.mpr ⟨lw_p55, List.forall_mem_cons.mpr ⟨lw_p56, List.forall_mem_cons.mpr ⟨lw_p57, List.forall_mem_cons.mpr ⟨lw_p58, List.forall_mem_cons.mpr ⟨lw_p59, List.forall_mem_cons.mpr ⟨lw_p60, List.forall_mem_cons.mpr ⟨lw_p61, List.forall_mem_cons.mpr ⟨lw_p62, List.forall_mem_cons.mpr ⟨lw_p63, fun _ h => absurd h List.not_mem_nil⟩⟩⟩⟩⟩⟩⟩⟩⟩⟩⟩⟩⟩⟩⟩⟩
theorem lw_p64 : lw_okq (⟨"CallSignsModel", "isSilent", "(III)Z"⟩, 46) := ⟨⟨by decide +kernel, by decide +kernel⟩, List.mem_of_getElem? (i := 987) (by decide +kernel), List.mem_of_getElem? (i := 1397) (by decide +kernel), List.mem_of_getElem? (i := 1398) (by decide +kernel)⟩
theorem lw_p65 : lw_okq (⟨"CallSignsModel", "isHeard", "(II)Z"⟩, 46) := ⟨⟨by decide +kernel, by decide +kernel⟩, List.mem_of_getElem? (i := 987) (by decide +kernel), List.mem_of_getElem? (i := 1401) (by decide +kernel), List.mem_of_getElem? (i := 1402) (by decide +kernel)⟩
theorem lw_p66 : lw_okq (⟨"CallSignsModel", "copies", "(II)V"⟩, 46) := ⟨⟨by decide +kernel, by decide +kernel⟩, List.mem_of_getElem? (i := 987) (by decide +kernel), List.mem_of_getElem? (i := 1421) (by decide +kernel), List.mem_of_getElem? (i := 1422) (by decide +kernel)⟩
def lw_privs_5 : List (MethodName × Nat) := [(⟨"CallSignsModel", "isSilent", "(III)Z"⟩, 46), (⟨"CallSignsModel", "isHeard", "(II)Z"⟩, 46), (⟨"CallSignsModel", "copies", "(II)V"⟩, 46)]
theorem lw_r5 : ∀ q ∈ lw_privs_5, lw_okq q := List.forall_mem_cons.mpr ⟨lw_p64, List.forall_mem_cons.mpr ⟨lw_p65, List.forall_mem_cons.mpr ⟨lw_p66, fun _ h => absurd h List.not_mem_nil⟩⟩⟩
def lw_privs : List (MethodName × Nat) := lw_privs_1 ++ (lw_privs_2 ++ (lw_privs_3 ++ (lw_privs_4 ++ (lw_privs_5))))
def lw_tbl : List Cond := k2_sels lw_privs ++ tables_1
theorem lw_privs_ok : ∀ q ∈ lw_privs, lw_okq q := by
  show ∀ q ∈ lw_privs_1 ++ (lw_privs_2 ++ (lw_privs_3 ++ (lw_privs_4 ++ (lw_privs_5)))), lw_okq q
  exact List.forall_mem_append.mpr ⟨lw_r1, List.forall_mem_append.mpr ⟨lw_r2, List.forall_mem_append.mpr ⟨lw_r3, List.forall_mem_append.mpr ⟨lw_r4, lw_r5⟩⟩⟩⟩
end
section
def lw_good : List Cond := lw_tbl.filter goodWord
theorem lw_in {w : Cond} (i : Nat) (h : lw_tbl[i]? = some w) (g : goodWord w = true) : w ∈ lw_good := List.mem_filter.mpr ⟨List.mem_of_getElem? h, g⟩
theorem lw_ps {ws : List Cond} (ps : List Nat) (hp : ws = ps.filterMap (fun i => lw_tbl[i]?)) (h : ws.all goodWord = true) : ∀ w ∈ ws, w ∈ lw_good := by
  intro w hw
  have h1 := List.all_eq_true.mp h w hw
  rw [hp] at hw
  obtain ⟨i, -, hi⟩ := List.mem_filterMap.mp hw
  exact lw_in i hi h1
def RX0 : String := "CallSigns$Book"
def TX0 : u_T := fun k => match k with
  | 0 => ("CallSigns$Book", "text", "[B", true)
  | 1 => ("CallSigns$Book", "length", "I", false)
  | 2 => ("CallSigns$Book", "numbers", "[I", true)
  | 3 => ("CallSigns$Book", "letters", "[I", true)
  | 4 => ("CallSigns$Book", "firsts", "[I", true)
  | 5 => ("CallSigns$Book", "seconds", "[I", true)
  | 6 => ("CallSigns$Book", "thirds", "[I", true)
  | 7 => ("CallSigns$Book", "items", "I", false)
  | 8 => ("CallSigns$Book", "postsTold", "I", false)
  | 9 => ("CallSigns$Book", "namesTold", "I", false)
  | 10 => ("CallSigns$Book", "nameOn", "[[I", true)
  | 11 => ("CallSigns$Book", "postOn", "[[I", true)
  | _ => ("CallSigns$Book", "taken", "I", false)
def tyX0 : Nat → FieldType := fun k => match k with
  | 0 => .array .byte
  | 1 => .int
  | 2 => .array .int
  | 3 => .array .int
  | 4 => .array .int
  | 5 => .array .int
  | 6 => .array .int
  | 7 => .int
  | 8 => .int
  | 9 => .int
  | 10 => .array (.array .int)
  | 11 => .array (.array .int)
  | _ => .int
theorem nmX0 : ∀ a, a < 13 → ∀ b, b < 13 → a ≠ b → (TX0 a).2.1 ≠ (TX0 b).2.1 := by decide +kernel
theorem tyX0_ok : ∀ k, k < 13 → parseFieldDescriptor (TX0 k).2.2.1 = some (tyX0 k) := by decide +kernel
theorem inX0 : ∀ w ∈ u_ws RX0 TX0 13, w ∈ lw_good := lw_ps [170, 172, 174, 176, 178, 180, 182, 184, 186, 188, 190, 192, 194] (by decide +kernel) (by decide +kernel)
def RX1 : String := "CallSigns$CallLog"
def TX1 : u_T := fun k => match k with
  | 0 => ("CallSigns$CallLog", "from", "[I", true)
  | 1 => ("CallSigns$CallLog", "to", "[I", true)
  | 2 => ("CallSigns$CallLog", "hour", "[I", true)
  | 3 => ("CallSigns$CallLog", "minutes", "[I", true)
  | 4 => ("CallSigns$CallLog", "wave", "[I", true)
  | 5 => ("CallSigns$CallLog", "pause", "[I", true)
  | _ => ("CallSigns$CallLog", "size", "I", false)
def tyX1 : Nat → FieldType := fun k => match k with
  | 0 => .array .int
  | 1 => .array .int
  | 2 => .array .int
  | 3 => .array .int
  | 4 => .array .int
  | 5 => .array .int
  | _ => .int
theorem nmX1 : ∀ a, a < 7 → ∀ b, b < 7 → a ≠ b → (TX1 a).2.1 ≠ (TX1 b).2.1 := by decide +kernel
theorem tyX1_ok : ∀ k, k < 7 → parseFieldDescriptor (TX1 k).2.2.1 = some (tyX1 k) := by decide +kernel
theorem inX1 : ∀ w ∈ u_ws RX1 TX1 7, w ∈ lw_good := lw_ps [126, 128, 130, 132, 134, 136, 138] (by decide +kernel) (by decide +kernel)
def RX2 : String := "CallSigns$Hands"
def TX2 : u_T := fun k => match k with
  | 0 => ("CallSigns$Hands", "apart", "I", false)
  | 1 => ("CallSigns$Hands", "size", "I", false)
  | _ => ("CallSigns$Hands", "byPause", "[I", true)
def tyX2 : Nat → FieldType := fun k => match k with
  | 0 => .int
  | 1 => .int
  | _ => .array .int
theorem nmX2 : ∀ a, a < 3 → ∀ b, b < 3 → a ≠ b → (TX2 a).2.1 ≠ (TX2 b).2.1 := by decide +kernel
theorem tyX2_ok : ∀ k, k < 3 → parseFieldDescriptor (TX2 k).2.2.1 = some (tyX2 k) := by decide +kernel
theorem inX2 : ∀ w ∈ u_ws RX2 TX2 3, w ∈ lw_good := lw_ps [209, 211, 213] (by decide +kernel) (by decide +kernel)
def RX3 : String := "CallSigns$Links"
def TX3 : u_T := fun k => match k with
  | 0 => ("CallSigns$Links", "size", "I", false)
  | _ => ("CallSigns$Links", "waveBits", "[I", true)
def tyX3 : Nat → FieldType := fun k => match k with
  | 0 => .int
  | _ => .array .int
theorem nmX3 : ∀ a, a < 2 → ∀ b, b < 2 → a ≠ b → (TX3 a).2.1 ≠ (TX3 b).2.1 := by decide +kernel
theorem tyX3_ok : ∀ k, k < 2 → parseFieldDescriptor (TX3 k).2.2.1 = some (tyX3 k) := by decide +kernel
theorem inX3 : ∀ w ∈ u_ws RX3 TX3 2, w ∈ lw_good := lw_ps [419, 421] (by decide +kernel) (by decide +kernel)
def RX4 : String := "CallSigns$Orders"
def TX4 : u_T := fun k => match k with
  | 0 => ("CallSigns$Orders", "within", "I", false)
  | _ => ("CallSigns$Orders", "signs", "[I", true)
def tyX4 : Nat → FieldType := fun k => match k with
  | 0 => .int
  | _ => .array .int
theorem nmX4 : ∀ a, a < 2 → ∀ b, b < 2 → a ≠ b → (TX4 a).2.1 ≠ (TX4 b).2.1 := by decide +kernel
theorem tyX4_ok : ∀ k, k < 2 → parseFieldDescriptor (TX4 k).2.2.1 = some (tyX4 k) := by decide +kernel
theorem inX4 : ∀ w ∈ u_ws RX4 TX4 2, w ∈ lw_good := lw_ps [298, 300] (by decide +kernel) (by decide +kernel)
def RX5 : String := "CallSigns$Pairing"
def TX5 : u_T := fun k => match k with
  | 0 => ("CallSigns$Pairing", "today", "LCallSigns$Senders;", true)
  | 1 => ("CallSigns$Pairing", "next", "LCallSigns$Senders;", true)
  | 2 => ("CallSigns$Pairing", "becomes", "[I", true)
  | 3 => ("CallSigns$Pairing", "cameFrom", "[I", true)
  | 4 => ("CallSigns$Pairing", "likes", "[I", true)
  | 5 => ("CallSigns$Pairing", "bests", "[I", true)
  | 6 => ("CallSigns$Pairing", "reached", "[Z", true)
  | _ => ("CallSigns$Pairing", "sure", "I", false)
def tyX5 : Nat → FieldType := fun k => match k with
  | 0 => .object "CallSigns$Senders"
  | 1 => .object "CallSigns$Senders"
  | 2 => .array .int
  | 3 => .array .int
  | 4 => .array .int
  | 5 => .array .int
  | 6 => .array .boolean
  | _ => .int
theorem nmX5 : ∀ a, a < 8 → ∀ b, b < 8 → a ≠ b → (TX5 a).2.1 ≠ (TX5 b).2.1 := by decide +kernel
theorem tyX5_ok : ∀ k, k < 8 → parseFieldDescriptor (TX5 k).2.2.1 = some (tyX5 k) := by decide +kernel
theorem inX5 : ∀ w ∈ u_ws RX5 TX5 8, w ∈ lw_good := lw_ps [259, 261, 263, 265, 267, 269, 271, 273] (by decide +kernel) (by decide +kernel)
def RX6 : String := "CallSigns$Places"
def TX6 : u_T := fun k => match k with
  | 0 => ("CallSigns$Places", "hearerX", "[I", true)
  | 1 => ("CallSigns$Places", "hearerY", "[I", true)
  | 2 => ("CallSigns$Places", "hearers", "[I", true)
  | 3 => ("CallSigns$Places", "names", "[I", true)
  | 4 => ("CallSigns$Places", "days", "[I", true)
  | 5 => ("CallSigns$Places", "us", "[I", true)
  | 6 => ("CallSigns$Places", "vs", "[I", true)
  | 7 => ("CallSigns$Places", "ws", "[I", true)
  | 8 => ("CallSigns$Places", "size", "I", false)
  | 9 => ("CallSigns$Places", "cells", "[I", true)
  | _ => ("CallSigns$Places", "otherCells", "[I", true)
def tyX6 : Nat → FieldType := fun k => match k with
  | 0 => .array .int
  | 1 => .array .int
  | 2 => .array .int
  | 3 => .array .int
  | 4 => .array .int
  | 5 => .array .int
  | 6 => .array .int
  | 7 => .array .int
  | 8 => .int
  | 9 => .array .int
  | _ => .array .int
theorem nmX6 : ∀ a, a < 11 → ∀ b, b < 11 → a ≠ b → (TX6 a).2.1 ≠ (TX6 b).2.1 := by decide +kernel
theorem tyX6_ok : ∀ k, k < 11 → parseFieldDescriptor (TX6 k).2.2.1 = some (tyX6 k) := by decide +kernel
theorem inX6 : ∀ w ∈ u_ws RX6 TX6 11, w ∈ lw_good := lw_ps [354, 356, 358, 360, 362, 364, 366, 368, 370, 372, 374] (by decide +kernel) (by decide +kernel)
def RX7 : String := "CallSigns$Senders"
def TX7 : u_T := fun k => match k with
  | 0 => ("CallSigns$Senders", "names", "[I", true)
  | 1 => ("CallSigns$Senders", "size", "I", false)
  | 2 => ("CallSigns$Senders", "handBits", "[J", true)
  | 3 => ("CallSigns$Senders", "waveBits", "[I", true)
  | _ => ("CallSigns$Senders", "hourBits", "[I", true)
def tyX7 : Nat → FieldType := fun k => match k with
  | 0 => .array .int
  | 1 => .int
  | 2 => .array .long
  | 3 => .array .int
  | _ => .array .int
theorem nmX7 : ∀ a, a < 5 → ∀ b, b < 5 → a ≠ b → (TX7 a).2.1 ≠ (TX7 b).2.1 := by decide +kernel
theorem tyX7_ok : ∀ k, k < 5 → parseFieldDescriptor (TX7 k).2.2.1 = some (tyX7 k) := by decide +kernel
theorem inX7 : ∀ w ∈ u_ws RX7 TX7 5, w ∈ lw_good := lw_ps [235, 237, 239, 241, 243] (by decide +kernel) (by decide +kernel)
def RX8 : String := "CallSigns$Silence"
def TX8 : u_T := fun k => match k with
  | 0 => ("CallSigns$Silence", "listened", "I", false)
  | 1 => ("CallSigns$Silence", "events", "I", false)
  | 2 => ("CallSigns$Silence", "waves", "[I", true)
  | 3 => ("CallSigns$Silence", "starts", "[I", true)
  | 4 => ("CallSigns$Silence", "ends", "[I", true)
  | 5 => ("CallSigns$Silence", "eventHours", "[I", true)
  | 6 => ("CallSigns$Silence", "heardWaves", "[I", true)
  | _ => ("CallSigns$Silence", "still", "[I", true)
def tyX8 : Nat → FieldType := fun k => match k with
  | 0 => .int
  | 1 => .int
  | 2 => .array .int
  | 3 => .array .int
  | 4 => .array .int
  | 5 => .array .int
  | 6 => .array .int
  | _ => .array .int
theorem nmX8 : ∀ a, a < 8 → ∀ b, b < 8 → a ≠ b → (TX8 a).2.1 ≠ (TX8 b).2.1 := by decide +kernel
theorem tyX8_ok : ∀ k, k < 8 → parseFieldDescriptor (TX8 k).2.2.1 = some (tyX8 k) := by decide +kernel
theorem inX8 : ∀ w ∈ u_ws RX8 TX8 8, w ∈ lw_good := lw_ps [393, 395, 397, 399, 401, 403, 405, 407] (by decide +kernel) (by decide +kernel)
def RX9 : String := "CallSigns$Trail"
def TX9 : u_T := fun k => match k with
  | _ => ("CallSigns$Trail", "origin", "[I", true)
def tyX9 : Nat → FieldType := fun k => match k with
  | _ => .array .int
theorem nmX9 : ∀ a, a < 1 → ∀ b, b < 1 → a ≠ b → (TX9 a).2.1 ≠ (TX9 b).2.1 := by decide +kernel
theorem tyX9_ok : ∀ k, k < 1 → parseFieldDescriptor (TX9 k).2.2.1 = some (tyX9 k) := by decide +kernel
theorem inX9 : ∀ w ∈ u_ws RX9 TX9 1, w ∈ lw_good := lw_ps [285] (by decide +kernel) (by decide +kernel)
def RX10 : String := "CallSigns$Tree"
def TX10 : u_T := fun k => match k with
  | 0 => ("CallSigns$Tree", "bestSum", "I", false)
  | 1 => ("CallSigns$Tree", "size", "I", false)
  | 2 => ("CallSigns$Tree", "members", "[I", true)
  | 3 => ("CallSigns$Tree", "signs", "[I", true)
  | 4 => ("CallSigns$Tree", "hope", "[I", true)
  | 5 => ("CallSigns$Tree", "above", "[I", true)
  | 6 => ("CallSigns$Tree", "best", "[I", true)
  | _ => ("CallSigns$Tree", "sure", "I", false)
def tyX10 : Nat → FieldType := fun k => match k with
  | 0 => .int
  | 1 => .int
  | 2 => .array .int
  | 3 => .array .int
  | 4 => .array .int
  | 5 => .array .int
  | 6 => .array .int
  | _ => .int
theorem nmX10 : ∀ a, a < 8 → ∀ b, b < 8 → a ≠ b → (TX10 a).2.1 ≠ (TX10 b).2.1 := by decide +kernel
theorem tyX10_ok : ∀ k, k < 8 → parseFieldDescriptor (TX10 k).2.2.1 = some (tyX10 k) := by decide +kernel
theorem inX10 : ∀ w ∈ u_ws RX10 TX10 8, w ∈ lw_good := lw_ps [318, 320, 322, 324, 326, 328, 330, 332] (by decide +kernel) (by decide +kernel)
def RX11 : String := "CallSigns"
def TX11 : u_T := fun k => match k with
  | 0 => ("CallSigns", "log", "LCallSigns$CallLog;", true)
  | 1 => ("CallSigns", "book", "LCallSigns$Book;", true)
  | 2 => ("CallSigns", "handBook", "LCallSigns$Hands;", true)
  | 3 => ("CallSigns", "pairing", "LCallSigns$Pairing;", true)
  | 4 => ("CallSigns", "trail", "LCallSigns$Trail;", true)
  | 5 => ("CallSigns", "orders", "LCallSigns$Orders;", true)
  | 6 => ("CallSigns", "orderTree", "LCallSigns$Tree;", true)
  | 7 => ("CallSigns", "places", "LCallSigns$Places;", true)
  | 8 => ("CallSigns", "silence", "LCallSigns$Silence;", true)
  | 9 => ("CallSigns", "links", "LCallSigns$Links;", true)
  | 10 => ("CallSigns", "keptCalls", "[I", true)
  | 11 => ("CallSigns", "keptBearings", "[I", true)
  | 12 => ("CallSigns", "keptListened", "[I", true)
  | 13 => ("CallSigns", "keptEvents", "[I", true)
  | _ => ("CallSigns", "kept", "I", false)
def tyX11 : Nat → FieldType := fun k => match k with
  | 0 => .object "CallSigns$CallLog"
  | 1 => .object "CallSigns$Book"
  | 2 => .object "CallSigns$Hands"
  | 3 => .object "CallSigns$Pairing"
  | 4 => .object "CallSigns$Trail"
  | 5 => .object "CallSigns$Orders"
  | 6 => .object "CallSigns$Tree"
  | 7 => .object "CallSigns$Places"
  | 8 => .object "CallSigns$Silence"
  | 9 => .object "CallSigns$Links"
  | 10 => .array .int
  | 11 => .array .int
  | 12 => .array .int
  | 13 => .array .int
  | _ => .int
theorem nmX11 : ∀ a, a < 15 → ∀ b, b < 15 → a ≠ b → (TX11 a).2.1 ≠ (TX11 b).2.1 := by decide +kernel
theorem tyX11_ok : ∀ k, k < 15 → parseFieldDescriptor (TX11 k).2.2.1 = some (tyX11 k) := by decide +kernel
theorem inX11 : ∀ w ∈ u_ws RX11 TX11 15, w ∈ lw_good := lw_ps [439, 441, 443, 445, 447, 449, 451, 453, 455, 457, 459, 461, 463, 465, 467] (by decide +kernel) (by decide +kernel)
def RX12 : String := "CallSignsModel"
def TX12 : u_T := fun k => match k with
  | 0 => ("CallSignsModel", "calls", "[I", true)
  | 1 => ("CallSignsModel", "from", "[I", true)
  | 2 => ("CallSignsModel", "to", "[I", true)
  | 3 => ("CallSignsModel", "hour", "[I", true)
  | 4 => ("CallSignsModel", "minutes", "[I", true)
  | 5 => ("CallSignsModel", "wave", "[I", true)
  | 6 => ("CallSignsModel", "pause", "[I", true)
  | 7 => ("CallSignsModel", "bearings", "[I", true)
  | 8 => ("CallSignsModel", "bearing", "[I", true)
  | 9 => ("CallSignsModel", "listens", "[I", true)
  | 10 => ("CallSignsModel", "listened", "[I", true)
  | 11 => ("CallSignsModel", "events", "[I", true)
  | 12 => ("CallSignsModel", "event", "[I", true)
  | 13 => ("CallSignsModel", "kept", "I", false)
  | 14 => ("CallSignsModel", "near", "I", false)
  | 15 => ("CallSignsModel", "within", "I", false)
  | 16 => ("CallSignsModel", "hearX", "[I", true)
  | 17 => ("CallSignsModel", "hearY", "[I", true)
  | 18 => ("CallSignsModel", "length", "I", false)
  | 19 => ("CallSignsModel", "text", "[B", true)
  | 20 => ("CallSignsModel", "items", "I", false)
  | 21 => ("CallSignsModel", "book", "[I", true)
  | 22 => ("CallSignsModel", "read", "I", false)
  | 23 => ("CallSignsModel", "at", "I", false)
  | 24 => ("CallSignsModel", "letter", "[I", true)
  | 25 => ("CallSignsModel", "one", "[I", true)
  | 26 => ("CallSignsModel", "two", "[I", true)
  | 27 => ("CallSignsModel", "three", "[I", true)
  | 28 => ("CallSignsModel", "hand", "[I", true)
  | 29 => ("CallSignsModel", "firsts", "I", false)
  | 30 => ("CallSignsModel", "seconds", "I", false)
  | 31 => ("CallSignsModel", "first", "[I", true)
  | 32 => ("CallSignsModel", "second", "[I", true)
  | 33 => ("CallSignsModel", "likes", "[I", true)
  | 34 => ("CallSignsModel", "best", "[I", true)
  | 35 => ("CallSignsModel", "becomes", "[I", true)
  | 36 => ("CallSignsModel", "nodes", "I", false)
  | 37 => ("CallSignsModel", "node", "[I", true)
  | 38 => ("CallSignsModel", "signs", "[I", true)
  | 39 => ("CallSignsModel", "above", "[I", true)
  | 40 => ("CallSignsModel", "bestAbove", "[I", true)
  | 41 => ("CallSignsModel", "sure", "[I", true)
  | 42 => ("CallSignsModel", "treeSum", "I", false)
  | 43 => ("CallSignsModel", "here", "[Z", true)
  | 44 => ("CallSignsModel", "there", "[Z", true)
  | _ => ("CallSignsModel", "links", "[I", true)
def tyX12 : Nat → FieldType := fun k => match k with
  | 0 => .array .int
  | 1 => .array .int
  | 2 => .array .int
  | 3 => .array .int
  | 4 => .array .int
  | 5 => .array .int
  | 6 => .array .int
  | 7 => .array .int
  | 8 => .array .int
  | 9 => .array .int
  | 10 => .array .int
  | 11 => .array .int
  | 12 => .array .int
  | 13 => .int
  | 14 => .int
  | 15 => .int
  | 16 => .array .int
  | 17 => .array .int
  | 18 => .int
  | 19 => .array .byte
  | 20 => .int
  | 21 => .array .int
  | 22 => .int
  | 23 => .int
  | 24 => .array .int
  | 25 => .array .int
  | 26 => .array .int
  | 27 => .array .int
  | 28 => .array .int
  | 29 => .int
  | 30 => .int
  | 31 => .array .int
  | 32 => .array .int
  | 33 => .array .int
  | 34 => .array .int
  | 35 => .array .int
  | 36 => .int
  | 37 => .array .int
  | 38 => .array .int
  | 39 => .array .int
  | 40 => .array .int
  | 41 => .array .int
  | 42 => .int
  | 43 => .array .boolean
  | 44 => .array .boolean
  | _ => .array .int
theorem nmX12 : ∀ a, a < 46 → ∀ b, b < 46 → a ≠ b → (TX12 a).2.1 ≠ (TX12 b).2.1 := by decide +kernel
theorem tyX12_ok : ∀ k, k < 46 → parseFieldDescriptor (TX12 k).2.2.1 = some (tyX12 k) := by decide +kernel
theorem inX12 : ∀ w ∈ u_ws RX12 TX12 46, w ∈ lw_good := lw_ps [1105, 1107, 1109, 1111, 1113, 1115, 1117, 1119, 1121, 1123, 1125, 1127, 1129, 1131, 1133, 1135, 1137, 1139, 1141, 1143, 1145, 1147, 1149, 1151, 1153, 1155, 1157, 1159, 1161, 1163, 1165, 1167, 1169, 1171, 1173, 1175, 1177, 1179, 1181, 1183, 1185, 1187, 1189, 1191, 1193, 1195] (by decide +kernel) (by decide +kernel)
abbrev jcl : List vw_C := [(RX0, TX0, 13), (RX1, TX1, 7), (RX2, TX2, 3), (RX3, TX3, 2), (RX4, TX4, 2), (RX5, TX5, 8), (RX6, TX6, 11), (RX7, TX7, 5), (RX8, TX8, 8), (RX9, TX9, 1), (RX10, TX10, 8), (RX11, TX11, 15), (RX12, TX12, 46)]
def ClsOk (q : vw_C) : Prop := (∀ w ∈ u_ws q.1 q.2.1 q.2.2, w ∈ lw_good) ∧ (∃ ty : Nat → FieldType, ∀ k, k < q.2.2 → parseFieldDescriptor (q.2.1 k).2.2.1 = some (ty k)) ∧ (∀ a, a < q.2.2 → ∀ b, b < q.2.2 → a ≠ b → (q.2.1 a).2.1 ≠ (q.2.1 b).2.1)
theorem jcl_ok : ∀ (ci : Nat) (q : vw_C), jcl[ci]? = some q → ClsOk q := by
  intro ci q hq
  match ci, hq with
  | 0, hq => cases hq; exact ⟨inX0, ⟨tyX0, tyX0_ok⟩, nmX0⟩
  | 1, hq => cases hq; exact ⟨inX1, ⟨tyX1, tyX1_ok⟩, nmX1⟩
  | 2, hq => cases hq; exact ⟨inX2, ⟨tyX2, tyX2_ok⟩, nmX2⟩
  | 3, hq => cases hq; exact ⟨inX3, ⟨tyX3, tyX3_ok⟩, nmX3⟩
  | 4, hq => cases hq; exact ⟨inX4, ⟨tyX4, tyX4_ok⟩, nmX4⟩
  | 5, hq => cases hq; exact ⟨inX5, ⟨tyX5, tyX5_ok⟩, nmX5⟩
  | 6, hq => cases hq; exact ⟨inX6, ⟨tyX6, tyX6_ok⟩, nmX6⟩
  | 7, hq => cases hq; exact ⟨inX7, ⟨tyX7, tyX7_ok⟩, nmX7⟩
  | 8, hq => cases hq; exact ⟨inX8, ⟨tyX8, tyX8_ok⟩, nmX8⟩
  | 9, hq => cases hq; exact ⟨inX9, ⟨tyX9, tyX9_ok⟩, nmX9⟩
  | 10, hq => cases hq; exact ⟨inX10, ⟨tyX10, tyX10_ok⟩, nmX10⟩
  | 11, hq => cases hq; exact ⟨inX11, ⟨tyX11, tyX11_ok⟩, nmX11⟩
  | 12, hq => cases hq; exact ⟨inX12, ⟨tyX12, tyX12_ok⟩, nmX12⟩
  | ci + 13, hq => simp [jcl] at hq
end
