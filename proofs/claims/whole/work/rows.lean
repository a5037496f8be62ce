section
-- ===== PART A: goes FIRST, ahead of the names: the tables' words, and 'selects' of the private methods out of them =====
/-- a private method of a class that the tables say can be made, by its rows of tables_1 -/
def lw_okq (q : MethodName × Nat) : Prop := (q.1.cls ≠ "java/lang/invoke/MethodHandle" ∧ q.1.cls ≠ "java/lang/invoke/VarHandle") ∧ Cond.instantiable q.1.cls q.2 ∈ tables_1 ∧ Cond.privateMethod q.1 ∈ tables_1 ∧ Cond.instanceMethod q.1 ∈ tables_1
theorem lw_p0 : lw_okq (⟨"NotaryHall", "find", "(I)LNotaryHall$Transaction;"⟩, 8) := ⟨⟨by decide +kernel, by decide +kernel⟩, List.mem_of_getElem? (i := 12) (by decide +kernel), List.mem_of_getElem? (i := 192) (by decide +kernel), List.mem_of_getElem? (i := 193) (by decide +kernel)⟩
theorem lw_p1 : lw_okq (⟨"NotaryHall", "findState", "(II)LNotaryHall$State;"⟩, 8) := ⟨⟨by decide +kernel, by decide +kernel⟩, List.mem_of_getElem? (i := 12) (by decide +kernel), List.mem_of_getElem? (i := 196) (by decide +kernel), List.mem_of_getElem? (i := 197) (by decide +kernel)⟩
theorem lw_p2 : lw_okq (⟨"NotaryHall", "stateNumbersEnd", "()I"⟩, 8) := ⟨⟨by decide +kernel, by decide +kernel⟩, List.mem_of_getElem? (i := 12) (by decide +kernel), List.mem_of_getElem? (i := 276) (by decide +kernel), List.mem_of_getElem? (i := 277) (by decide +kernel)⟩
theorem lw_p3 : lw_okq (⟨"NotaryHall", "stateNumbered", "(I)LNotaryHall$State;"⟩, 8) := ⟨⟨by decide +kernel, by decide +kernel⟩, List.mem_of_getElem? (i := 12) (by decide +kernel), List.mem_of_getElem? (i := 280) (by decide +kernel), List.mem_of_getElem? (i := 281) (by decide +kernel)⟩
theorem lw_p4 : lw_okq (⟨"NotaryHall", "isCoin", "(LNotaryHall$State;ILNotaryHall$Transaction;)Z"⟩, 8) := ⟨⟨by decide +kernel, by decide +kernel⟩, List.mem_of_getElem? (i := 12) (by decide +kernel), List.mem_of_getElem? (i := 284) (by decide +kernel), List.mem_of_getElem? (i := 285) (by decide +kernel)⟩
theorem lw_p5 : lw_okq (⟨"NotaryHall", "isInVault", "(LNotaryHall$State;I)Z"⟩, 8) := ⟨⟨by decide +kernel, by decide +kernel⟩, List.mem_of_getElem? (i := 12) (by decide +kernel), List.mem_of_getElem? (i := 300) (by decide +kernel), List.mem_of_getElem? (i := 301) (by decide +kernel)⟩
theorem lw_p6 : lw_okq (⟨"NotaryHall", "isKnownInput", "(LNotaryHall$State;I)Z"⟩, 8) := ⟨⟨by decide +kernel, by decide +kernel⟩, List.mem_of_getElem? (i := 12) (by decide +kernel), List.mem_of_getElem? (i := 312) (by decide +kernel), List.mem_of_getElem? (i := 313) (by decide +kernel)⟩
theorem lw_p7 : lw_okq (⟨"NotaryHall", "isHeld", "(LNotaryHall$State;I)Z"⟩, 8) := ⟨⟨by decide +kernel, by decide +kernel⟩, List.mem_of_getElem? (i := 12) (by decide +kernel), List.mem_of_getElem? (i := 316) (by decide +kernel), List.mem_of_getElem? (i := 317) (by decide +kernel)⟩
theorem lw_p8 : lw_okq (⟨"NotaryHall", "takeCoins", "(LNotaryHall$Transaction;I)V"⟩, 8) := ⟨⟨by decide +kernel, by decide +kernel⟩, List.mem_of_getElem? (i := 12) (by decide +kernel), List.mem_of_getElem? (i := 324) (by decide +kernel), List.mem_of_getElem? (i := 325) (by decide +kernel)⟩
theorem lw_p9 : lw_okq (⟨"NotaryHall$Transaction", "allowsInput", "(LNotaryHall$State;)Z"⟩, 15) := ⟨⟨by decide +kernel, by decide +kernel⟩, List.mem_of_getElem? (i := 103) (by decide +kernel), List.mem_of_getElem? (i := 340) (by decide +kernel), List.mem_of_getElem? (i := 341) (by decide +kernel)⟩
theorem lw_p10 : lw_okq (⟨"NotaryHall$Transaction", "mustSign", "(I)Z"⟩, 15) := ⟨⟨by decide +kernel, by decide +kernel⟩, List.mem_of_getElem? (i := 103) (by decide +kernel), List.mem_of_getElem? (i := 359) (by decide +kernel), List.mem_of_getElem? (i := 360) (by decide +kernel)⟩
theorem lw_p11 : lw_okq (⟨"NotaryHall$Transaction", "owesMore", "(I)Z"⟩, 15) := ⟨⟨by decide +kernel, by decide +kernel⟩, List.mem_of_getElem? (i := 103) (by decide +kernel), List.mem_of_getElem? (i := 373) (by decide +kernel), List.mem_of_getElem? (i := 374) (by decide +kernel)⟩
theorem lw_p12 : lw_okq (⟨"NotaryHall$Transaction", "isLetDown", "(I)Z"⟩, 15) := ⟨⟨by decide +kernel, by decide +kernel⟩, List.mem_of_getElem? (i := 103) (by decide +kernel), List.mem_of_getElem? (i := 385) (by decide +kernel), List.mem_of_getElem? (i := 386) (by decide +kernel)⟩
theorem lw_p13 : lw_okq (⟨"NotaryHall", "sendNotarise", "(LNotaryHall$Transaction;)I"⟩, 8) := ⟨⟨by decide +kernel, by decide +kernel⟩, List.mem_of_getElem? (i := 12) (by decide +kernel), List.mem_of_getElem? (i := 402) (by decide +kernel), List.mem_of_getElem? (i := 403) (by decide +kernel)⟩
theorem lw_p14 : lw_okq (⟨"NotaryHall", "send", "(ILNotaryHall$Transaction;III)I"⟩, 8) := ⟨⟨by decide +kernel, by decide +kernel⟩, List.mem_of_getElem? (i := 12) (by decide +kernel), List.mem_of_getElem? (i := 406) (by decide +kernel), List.mem_of_getElem? (i := 407) (by decide +kernel)⟩
theorem lw_p15 : lw_okq (⟨"NotaryHall$Mailbox", "isWaiting", "(I)Z"⟩, 2) := ⟨⟨by decide +kernel, by decide +kernel⟩, List.mem_of_getElem? (i := 49) (by decide +kernel), List.mem_of_getElem? (i := 417) (by decide +kernel), List.mem_of_getElem? (i := 418) (by decide +kernel)⟩
def lw_privs_1 : List (MethodName × Nat) := [(⟨"NotaryHall", "find", "(I)LNotaryHall$Transaction;"⟩, 8), (⟨"NotaryHall", "findState", "(II)LNotaryHall$State;"⟩, 8), (⟨"NotaryHall", "stateNumbersEnd", "()I"⟩, 8), (⟨"NotaryHall", "stateNumbered", "(I)LNotaryHall$State;"⟩, 8), (⟨"NotaryHall", "isCoin", "(LNotaryHall$State;ILNotaryHall$Transaction;)Z"⟩, 8), (⟨"NotaryHall", "isInVault", "(LNotaryHall$State;I)Z"⟩, 8), (⟨"NotaryHall", "isKnownInput", "(LNotaryHall$State;I)Z"⟩, 8), (⟨"NotaryHall", "isHeld", "(LNotaryHall$State;I)Z"⟩, 8), (⟨"NotaryHall", "takeCoins", "(LNotaryHall$Transaction;I)V"⟩, 8), (⟨"NotaryHall$Transaction", "allowsInput", "(LNotaryHall$State;)Z"⟩, 15), (⟨"NotaryHall$Transaction", "mustSign", "(I)Z"⟩, 15), (⟨"NotaryHall$Transaction", "owesMore", "(I)Z"⟩, 15), (⟨"NotaryHall$Transaction", "isLetDown", "(I)Z"⟩, 15), (⟨"NotaryHall", "sendNotarise", "(LNotaryHall$Transaction;)I"⟩, 8), (⟨"NotaryHall", "send", "(ILNotaryHall$Transaction;III)I"⟩, 8), (⟨"NotaryHall$Mailbox", "isWaiting", "(I)Z"⟩, 2)]
theorem lw_r1 : ∀ q ∈ lw_privs_1, lw_okq q := List.forall_mem_cons.mpr ⟨lw_p0, List.forall_mem_cons.mpr ⟨lw_p1, List.forall_mem_cons.mpr ⟨lw_p2, List.forall_mem_cons.mpr ⟨lw_p3, List.forall_mem_cons.mpr ⟨lw_p4, List.forall_mem_cons.mpr ⟨lw_p5, List.forall_mem_cons.mpr ⟨lw_p6, List.forall_mem_cons.mpr ⟨lw_p7, List.forall_mem_cons.mpr ⟨lw_p8, List.forall_mem_cons.mpr ⟨lw_p9, List.forall_mem_cons.mpr ⟨lw_p10, List.forall_mem_cons.mpr ⟨lw_p11, List.forall_mem_cons.mpr ⟨lw_p12, List.forall_mem_cons.mpr ⟨lw_p13, List.forall_mem_cons.mpr ⟨lw_p14, List.forall_mem_cons.mpr ⟨lw_p15, fun _ h => absurd h List.not_mem_nil⟩⟩⟩⟩⟩⟩⟩⟩⟩⟩⟩⟩⟩⟩⟩⟩
theorem lw_p16 : lw_okq (⟨"NotaryHall", "sendToOthers", "(ILNotaryHall$Transaction;I)I"⟩, 8) := ⟨⟨by decide +kernel, by decide +kernel⟩, List.mem_of_getElem? (i := 12) (by decide +kernel), List.mem_of_getElem? (i := 421) (by decide +kernel), List.mem_of_getElem? (i := 422) (by decide +kernel)⟩
theorem lw_p17 : lw_okq (⟨"NotaryHall", "receive", "(IZ)I"⟩, 8) := ⟨⟨by decide +kernel, by decide +kernel⟩, List.mem_of_getElem? (i := 12) (by decide +kernel), List.mem_of_getElem? (i := 433) (by decide +kernel), List.mem_of_getElem? (i := 434) (by decide +kernel)⟩
theorem lw_p18 : lw_okq (⟨"NotaryHall", "receiveAsk", "(LNotaryHall$Transaction;IZ)I"⟩, 8) := ⟨⟨by decide +kernel, by decide +kernel⟩, List.mem_of_getElem? (i := 12) (by decide +kernel), List.mem_of_getElem? (i := 449) (by decide +kernel), List.mem_of_getElem? (i := 450) (by decide +kernel)⟩
theorem lw_p19 : lw_okq (⟨"NotaryHall", "receiveReply", "(LNotaryHall$Transaction;IIZ)I"⟩, 8) := ⟨⟨by decide +kernel, by decide +kernel⟩, List.mem_of_getElem? (i := 12) (by decide +kernel), List.mem_of_getElem? (i := 471) (by decide +kernel), List.mem_of_getElem? (i := 472) (by decide +kernel)⟩
theorem lw_p20 : lw_okq (⟨"NotaryHall", "receiveNotarise", "(LNotaryHall$Transaction;)I"⟩, 8) := ⟨⟨by decide +kernel, by decide +kernel⟩, List.mem_of_getElem? (i := 12) (by decide +kernel), List.mem_of_getElem? (i := 475) (by decide +kernel), List.mem_of_getElem? (i := 476) (by decide +kernel)⟩
theorem lw_p21 : lw_okq (⟨"NotaryHall", "judge", "(LNotaryHall$Transaction;)I"⟩, 8) := ⟨⟨by decide +kernel, by decide +kernel⟩, List.mem_of_getElem? (i := 12) (by decide +kernel), List.mem_of_getElem? (i := 479) (by decide +kernel), List.mem_of_getElem? (i := 480) (by decide +kernel)⟩
theorem lw_p22 : lw_okq (⟨"NotaryHall", "isAnyInputUsedUp", "(LNotaryHall$Transaction;)Z"⟩, 8) := ⟨⟨by decide +kernel, by decide +kernel⟩, List.mem_of_getElem? (i := 12) (by decide +kernel), List.mem_of_getElem? (i := 483) (by decide +kernel), List.mem_of_getElem? (i := 484) (by decide +kernel)⟩
theorem lw_p23 : lw_okq (⟨"NotaryHall", "useUpInputs", "(LNotaryHall$Transaction;)V"⟩, 8) := ⟨⟨by decide +kernel, by decide +kernel⟩, List.mem_of_getElem? (i := 12) (by decide +kernel), List.mem_of_getElem? (i := 487) (by decide +kernel), List.mem_of_getElem? (i := 488) (by decide +kernel)⟩
theorem lw_p24 : lw_okq (⟨"NotaryHall", "receiveVerdict", "(LNotaryHall$Transaction;IZ)I"⟩, 8) := ⟨⟨by decide +kernel, by decide +kernel⟩, List.mem_of_getElem? (i := 12) (by decide +kernel), List.mem_of_getElem? (i := 491) (by decide +kernel), List.mem_of_getElem? (i := 492) (by decide +kernel)⟩
theorem lw_p25 : lw_okq (⟨"NotaryHall", "settle", "(LNotaryHall$Transaction;I)V"⟩, 8) := ⟨⟨by decide +kernel, by decide +kernel⟩, List.mem_of_getElem? (i := 12) (by decide +kernel), List.mem_of_getElem? (i := 500) (by decide +kernel), List.mem_of_getElem? (i := 501) (by decide +kernel)⟩
theorem lw_p26 : lw_okq (⟨"NotaryHall", "receiveFinality", "(LNotaryHall$Transaction;IZ)I"⟩, 8) := ⟨⟨by decide +kernel, by decide +kernel⟩, List.mem_of_getElem? (i := 12) (by decide +kernel), List.mem_of_getElem? (i := 508) (by decide +kernel), List.mem_of_getElem? (i := 509) (by decide +kernel)⟩
theorem lw_p27 : lw_okq (⟨"NotaryHall$Transaction", "inputLeaf", "(I)I"⟩, 15) := ⟨⟨by decide +kernel, by decide +kernel⟩, List.mem_of_getElem? (i := 103) (by decide +kernel), List.mem_of_getElem? (i := 570) (by decide +kernel), List.mem_of_getElem? (i := 571) (by decide +kernel)⟩
theorem lw_p28 : lw_okq (⟨"NotaryHall$Transaction", "outputLeaf", "(I)I"⟩, 15) := ⟨⟨by decide +kernel, by decide +kernel⟩, List.mem_of_getElem? (i := 103) (by decide +kernel), List.mem_of_getElem? (i := 574) (by decide +kernel), List.mem_of_getElem? (i := 575) (by decide +kernel)⟩
theorem lw_p29 : lw_okq (⟨"NotaryHallModel", "isNode", "(I)Z"⟩, 27) := ⟨⟨by decide +kernel, by decide +kernel⟩, List.mem_of_getElem? (i := 585) (by decide +kernel), List.mem_of_getElem? (i := 678) (by decide +kernel), List.mem_of_getElem? (i := 679) (by decide +kernel)⟩
theorem lw_p30 : lw_okq (⟨"NotaryHallModel", "isTx", "(I)Z"⟩, 27) := ⟨⟨by decide +kernel, by decide +kernel⟩, List.mem_of_getElem? (i := 585) (by decide +kernel), List.mem_of_getElem? (i := 687) (by decide +kernel), List.mem_of_getElem? (i := 688) (by decide +kernel)⟩
theorem lw_p31 : lw_okq (⟨"NotaryHallModel", "isState", "(II)Z"⟩, 27) := ⟨⟨by decide +kernel, by decide +kernel⟩, List.mem_of_getElem? (i := 585) (by decide +kernel), List.mem_of_getElem? (i := 691) (by decide +kernel), List.mem_of_getElem? (i := 692) (by decide +kernel)⟩
def lw_privs_2 : List (MethodName × Nat) := [(⟨"NotaryHall", "sendToOthers", "(ILNotaryHall$Transaction;I)I"⟩, 8), (⟨"NotaryHall", "receive", "(IZ)I"⟩, 8), (⟨"NotaryHall", "receiveAsk", "(LNotaryHall$Transaction;IZ)I"⟩, 8), (⟨"NotaryHall", "receiveReply", "(LNotaryHall$Transaction;IIZ)I"⟩, 8), (⟨"NotaryHall", "receiveNotarise", "(LNotaryHall$Transaction;)I"⟩, 8), (⟨"NotaryHall", "judge", "(LNotaryHall$Transaction;)I"⟩, 8), (⟨"NotaryHall", "isAnyInputUsedUp", "(LNotaryHall$Transaction;)Z"⟩, 8), (⟨"NotaryHall", "useUpInputs", "(LNotaryHall$Transaction;)V"⟩, 8), (⟨"NotaryHall", "receiveVerdict", "(LNotaryHall$Transaction;IZ)I"⟩, 8), (⟨"NotaryHall", "settle", "(LNotaryHall$Transaction;I)V"⟩, 8), (⟨"NotaryHall", "receiveFinality", "(LNotaryHall$Transaction;IZ)I"⟩, 8), (⟨"NotaryHall$Transaction", "inputLeaf", "(I)I"⟩, 15), (⟨"NotaryHall$Transaction", "outputLeaf", "(I)I"⟩, 15), (⟨"NotaryHallModel", "isNode", "(I)Z"⟩, 27), (⟨"NotaryHallModel", "isTx", "(I)Z"⟩, 27), (⟨"NotaryHallModel", "isState", "(II)Z"⟩, 27)]
theorem lw_r2 : ∀ q ∈ lw_privs_2, lw_okq q := List.forall_mem_cons.mpr ⟨lw_p16, List.forall_mem_cons.mpr ⟨lw_p17, List.forall_mem_cons.mpr ⟨lw_p18, List.forall_mem_cons.mpr ⟨lw_p19, List.forall_mem_cons.mpr ⟨lw_p20, List.forall_mem_cons.mpr ⟨lw_p21, List.forall_mem_cons.mpr ⟨lw_p22, List.forall_mem_cons.mpr ⟨lw_p23, List.forall_mem_cons.mpr ⟨lw_p24, List.forall_mem_cons.mpr ⟨lw_p25, List.forall_mem_cons.mpr ⟨lw_p26, List.forall_mem_cons.mpr ⟨lw_p27, List.forall_mem_cons.mpr ⟨lw_p28, List.forall_mem_cons.mpr ⟨lw_p29, List.forall_mem_cons.mpr ⟨lw_p30, List.forall_mem_cons.mpr ⟨lw_p31, fun _ h => absurd h List.not_mem_nil⟩⟩⟩⟩⟩⟩⟩⟩⟩⟩⟩⟩⟩⟩⟩⟩
theorem lw_p32 : lw_okq (⟨"NotaryHallModel", "isInput", "(II)Z"⟩, 27) := ⟨⟨by decide +kernel, by decide +kernel⟩, List.mem_of_getElem? (i := 585) (by decide +kernel), List.mem_of_getElem? (i := 695) (by decide +kernel), List.mem_of_getElem? (i := 696) (by decide +kernel)⟩
theorem lw_p33 : lw_okq (⟨"NotaryHallModel", "addInput", "(II)V"⟩, 27) := ⟨⟨by decide +kernel, by decide +kernel⟩, List.mem_of_getElem? (i := 585) (by decide +kernel), List.mem_of_getElem? (i := 699) (by decide +kernel), List.mem_of_getElem? (i := 700) (by decide +kernel)⟩
theorem lw_p34 : lw_okq (⟨"NotaryHallModel", "addOutput", "(IIIII)V"⟩, 27) := ⟨⟨by decide +kernel, by decide +kernel⟩, List.mem_of_getElem? (i := 585) (by decide +kernel), List.mem_of_getElem? (i := 707) (by decide +kernel), List.mem_of_getElem? (i := 708) (by decide +kernel)⟩
theorem lw_p35 : lw_okq (⟨"NotaryHallModel", "coin", "(III)Z"⟩, 27) := ⟨⟨by decide +kernel, by decide +kernel⟩, List.mem_of_getElem? (i := 585) (by decide +kernel), List.mem_of_getElem? (i := 719) (by decide +kernel), List.mem_of_getElem? (i := 720) (by decide +kernel)⟩
theorem lw_p36 : lw_okq (⟨"NotaryHallModel", "inVault", "(II)Z"⟩, 27) := ⟨⟨by decide +kernel, by decide +kernel⟩, List.mem_of_getElem? (i := 585) (by decide +kernel), List.mem_of_getElem? (i := 723) (by decide +kernel), List.mem_of_getElem? (i := 724) (by decide +kernel)⟩
theorem lw_p37 : lw_okq (⟨"NotaryHallModel", "concerns", "(II)Z"⟩, 27) := ⟨⟨by decide +kernel, by decide +kernel⟩, List.mem_of_getElem? (i := 585) (by decide +kernel), List.mem_of_getElem? (i := 727) (by decide +kernel), List.mem_of_getElem? (i := 728) (by decide +kernel)⟩
theorem lw_p38 : lw_okq (⟨"NotaryHallModel", "held", "(II)Z"⟩, 27) := ⟨⟨by decide +kernel, by decide +kernel⟩, List.mem_of_getElem? (i := 585) (by decide +kernel), List.mem_of_getElem? (i := 731) (by decide +kernel), List.mem_of_getElem? (i := 732) (by decide +kernel)⟩
theorem lw_p39 : lw_okq (⟨"NotaryHallModel", "valid", "(I)Z"⟩, 27) := ⟨⟨by decide +kernel, by decide +kernel⟩, List.mem_of_getElem? (i := 585) (by decide +kernel), List.mem_of_getElem? (i := 743) (by decide +kernel), List.mem_of_getElem? (i := 744) (by decide +kernel)⟩
theorem lw_p40 : lw_okq (⟨"NotaryHallModel", "alone", "(I)Z"⟩, 27) := ⟨⟨by decide +kernel, by decide +kernel⟩, List.mem_of_getElem? (i := 585) (by decide +kernel), List.mem_of_getElem? (i := 747) (by decide +kernel), List.mem_of_getElem? (i := 748) (by decide +kernel)⟩
theorem lw_p41 : lw_okq (⟨"NotaryHallModel", "needs", "(I)I"⟩, 27) := ⟨⟨by decide +kernel, by decide +kernel⟩, List.mem_of_getElem? (i := 585) (by decide +kernel), List.mem_of_getElem? (i := 751) (by decide +kernel), List.mem_of_getElem? (i := 752) (by decide +kernel)⟩
theorem lw_p42 : lw_okq (⟨"NotaryHallModel", "mustSign", "(II)Z"⟩, 27) := ⟨⟨by decide +kernel, by decide +kernel⟩, List.mem_of_getElem? (i := 585) (by decide +kernel), List.mem_of_getElem? (i := 755) (by decide +kernel), List.mem_of_getElem? (i := 756) (by decide +kernel)⟩
theorem lw_p43 : lw_okq (⟨"NotaryHallModel", "gain", "(IIII)I"⟩, 27) := ⟨⟨by decide +kernel, by decide +kernel⟩, List.mem_of_getElem? (i := 585) (by decide +kernel), List.mem_of_getElem? (i := 759) (by decide +kernel), List.mem_of_getElem? (i := 760) (by decide +kernel)⟩
theorem lw_p44 : lw_okq (⟨"NotaryHallModel", "letDown", "(II)Z"⟩, 27) := ⟨⟨by decide +kernel, by decide +kernel⟩, List.mem_of_getElem? (i := 585) (by decide +kernel), List.mem_of_getElem? (i := 763) (by decide +kernel), List.mem_of_getElem? (i := 764) (by decide +kernel)⟩
theorem lw_p45 : lw_okq (⟨"NotaryHallModel", "send", "(IIIII)I"⟩, 27) := ⟨⟨by decide +kernel, by decide +kernel⟩, List.mem_of_getElem? (i := 585) (by decide +kernel), List.mem_of_getElem? (i := 767) (by decide +kernel), List.mem_of_getElem? (i := 768) (by decide +kernel)⟩
theorem lw_p46 : lw_okq (⟨"NotaryHallModel", "ask", "(IIZ)V"⟩, 27) := ⟨⟨by decide +kernel, by decide +kernel⟩, List.mem_of_getElem? (i := 585) (by decide +kernel), List.mem_of_getElem? (i := 775) (by decide +kernel), List.mem_of_getElem? (i := 776) (by decide +kernel)⟩
theorem lw_p47 : lw_okq (⟨"NotaryHallModel", "fetch", "(II)V"⟩, 27) := ⟨⟨by decide +kernel, by decide +kernel⟩, List.mem_of_getElem? (i := 585) (by decide +kernel), List.mem_of_getElem? (i := 779) (by decide +kernel), List.mem_of_getElem? (i := 780) (by decide +kernel)⟩
def lw_privs_3 : List (MethodName × Nat) := [(⟨"NotaryHallModel", "isInput", "(II)Z"⟩, 27), (⟨"NotaryHallModel", "addInput", "(II)V"⟩, 27), (⟨"NotaryHallModel", "addOutput", "(IIIII)V"⟩, 27), (⟨"NotaryHallModel", "coin", "(III)Z"⟩, 27), (⟨"NotaryHallModel", "inVault", "(II)Z"⟩, 27), (⟨"NotaryHallModel", "concerns", "(II)Z"⟩, 27), (⟨"NotaryHallModel", "held", "(II)Z"⟩, 27), (⟨"NotaryHallModel", "valid", "(I)Z"⟩, 27), (⟨"NotaryHallModel", "alone", "(I)Z"⟩, 27), (⟨"NotaryHallModel", "needs", "(I)I"⟩, 27), (⟨"NotaryHallModel", "mustSign", "(II)Z"⟩, 27), (⟨"NotaryHallModel", "gain", "(IIII)I"⟩, 27), (⟨"NotaryHallModel", "letDown", "(II)Z"⟩, 27), (⟨"NotaryHallModel", "send", "(IIIII)I"⟩, 27), (⟨"NotaryHallModel", "ask", "(IIZ)V"⟩, 27), (⟨"NotaryHallModel", "fetch", "(II)V"⟩, 27)]
theorem lw_r3 : ∀ q ∈ lw_privs_3, lw_okq q := List.forall_mem_cons.mpr ⟨lw_p32, List.forall_mem_cons.mpr ⟨lw_p33, List.forall_mem_cons.mpr ⟨lw_p34, List.forall_mem_cons.mpr ⟨lw_p35, List.forall_mem_cons.mpr ⟨lw_p36, List.forall_mem_cons.mpr ⟨lw_p37, List.forall_mem_cons.mpr ⟨lw_p38, List.forall_mem_cons.mpr ⟨lw_p39, List.forall_mem_cons.mpr ⟨lw_p40, List.forall_mem_cons.mpr ⟨lw_p41, List.forall_mem_cons.mpr ⟨lw_p42, List.forall_mem_cons.mpr ⟨lw_p43, List.forall_mem_cons.mpr ⟨lw_p44, List.forall_mem_cons.mpr ⟨lw_p45, List.forall_mem_cons.mpr ⟨lw_p46, List.forall_mem_cons.mpr ⟨lw_p47, fun _ h => absurd h List.not_mem_nil⟩⟩⟩⟩⟩⟩⟩⟩⟩⟩⟩⟩⟩⟩⟩⟩
theorem lw_p48 : lw_okq (⟨"NotaryHallModel", "reply", "(IIIZ)I"⟩, 27) := ⟨⟨by decide +kernel, by decide +kernel⟩, List.mem_of_getElem? (i := 585) (by decide +kernel), List.mem_of_getElem? (i := 783) (by decide +kernel), List.mem_of_getElem? (i := 784) (by decide +kernel)⟩
theorem lw_p49 : lw_okq (⟨"NotaryHallModel", "notarise", "(I)V"⟩, 27) := ⟨⟨by decide +kernel, by decide +kernel⟩, List.mem_of_getElem? (i := 585) (by decide +kernel), List.mem_of_getElem? (i := 787) (by decide +kernel), List.mem_of_getElem? (i := 788) (by decide +kernel)⟩
theorem lw_p50 : lw_okq (⟨"NotaryHallModel", "judge", "(I)I"⟩, 27) := ⟨⟨by decide +kernel, by decide +kernel⟩, List.mem_of_getElem? (i := 585) (by decide +kernel), List.mem_of_getElem? (i := 791) (by decide +kernel), List.mem_of_getElem? (i := 792) (by decide +kernel)⟩
theorem lw_p51 : lw_okq (⟨"NotaryHallModel", "sound", "(I)Z"⟩, 27) := ⟨⟨by decide +kernel, by decide +kernel⟩, List.mem_of_getElem? (i := 585) (by decide +kernel), List.mem_of_getElem? (i := 795) (by decide +kernel), List.mem_of_getElem? (i := 796) (by decide +kernel)⟩
theorem lw_p52 : lw_okq (⟨"NotaryHallModel", "hear", "(IIZ)I"⟩, 27) := ⟨⟨by decide +kernel, by decide +kernel⟩, List.mem_of_getElem? (i := 585) (by decide +kernel), List.mem_of_getElem? (i := 799) (by decide +kernel), List.mem_of_getElem? (i := 800) (by decide +kernel)⟩
theorem lw_p53 : lw_okq (⟨"NotaryHallModel", "told", "(II)Z"⟩, 27) := ⟨⟨by decide +kernel, by decide +kernel⟩, List.mem_of_getElem? (i := 585) (by decide +kernel), List.mem_of_getElem? (i := 803) (by decide +kernel), List.mem_of_getElem? (i := 804) (by decide +kernel)⟩
theorem lw_p54 : lw_okq (⟨"NotaryHallModel", "close", "(IIZ)I"⟩, 27) := ⟨⟨by decide +kernel, by decide +kernel⟩, List.mem_of_getElem? (i := 585) (by decide +kernel), List.mem_of_getElem? (i := 807) (by decide +kernel), List.mem_of_getElem? (i := 808) (by decide +kernel)⟩
theorem lw_p55 : lw_okq (⟨"NotaryHallModel", "leaf", "(II)I"⟩, 27) := ⟨⟨by decide +kernel, by decide +kernel⟩, List.mem_of_getElem? (i := 585) (by decide +kernel), List.mem_of_getElem? (i := 859) (by decide +kernel), List.mem_of_getElem? (i := 860) (by decide +kernel)⟩
def lw_privs_4 : List (MethodName × Nat) := [(⟨"NotaryHallModel", "reply", "(IIIZ)I"⟩, 27), (⟨"NotaryHallModel", "notarise", "(I)V"⟩, 27), (⟨"NotaryHallModel", "judge", "(I)I"⟩, 27), (⟨"NotaryHallModel", "sound", "(I)Z"⟩, 27), (⟨"NotaryHallModel", "hear", "(IIZ)I"⟩, 27), (⟨"NotaryHallModel", "told", "(II)Z"⟩, 27), (⟨"NotaryHallModel", "close", "(IIZ)I"⟩, 27), (⟨"NotaryHallModel", "leaf", "(II)I"⟩, 27)]
theorem lw_r4 : ∀ q ∈ lw_privs_4, lw_okq q := List.forall_mem_cons.mpr ⟨lw_p48, List.forall_mem_cons.mpr ⟨lw_p49, List.forall_mem_cons.mpr ⟨lw_p50, List.forall_mem_cons.mpr ⟨lw_p51, List.forall_mem_cons.mpr ⟨lw_p52, List.forall_mem_cons.mpr ⟨lw_p53, List.forall_mem_cons.mpr ⟨lw_p54, List.forall_mem_cons.mpr ⟨lw_p55, fun _ h => absurd h List.not_mem_nil⟩⟩⟩⟩⟩⟩⟩⟩
def lw_privs : List (MethodName × Nat) := lw_privs_1 ++ (lw_privs_2 ++ (lw_privs_3 ++ (lw_privs_4)))
def lw_tbl : List Cond := k2_sels lw_privs ++ tables_1
theorem lw_privs_ok : ∀ q ∈ lw_privs, lw_okq q := by
  show ∀ q ∈ lw_privs_1 ++ (lw_privs_2 ++ (lw_privs_3 ++ (lw_privs_4))), lw_okq q
  exact List.forall_mem_append.mpr ⟨lw_r1, List.forall_mem_append.mpr ⟨lw_r2, List.forall_mem_append.mpr ⟨lw_r3, lw_r4⟩⟩⟩
end
section
-- names: classes, fields, words of the tables (written by wip/whole/mknames.py out of the Statement)
abbrev z_MD : Type := MethodName × ByteArray × Nat × Option FieldType × Nat × (Nat → Int32)
def zTH : u_T := fun k => match k with
  | 0 => ("NotaryHall", "transactions", "[LNotaryHall$Transaction;", true)
  | 1 => ("NotaryHall", "transactionCount", "I", false)
  | 2 => ("NotaryHall", "nodes", "[LNotaryHall$Node;", true)
  | 3 => ("NotaryHall", "mailbox", "LNotaryHall$Mailbox;", true)
  | 4 => ("NotaryHall", "spenders", "[I", true)
  | 5 => ("NotaryHall", "coins", "[I", true)
  | 6 => ("NotaryHall", "treeRow", "[I", true)
  | _ => ("NotaryHall", "clock", "I", false)
def zYH : Nat → FieldType := fun k => match k with
  | 0 => .array (.object "NotaryHall$Transaction")
  | 1 => .int
  | 2 => .array (.object "NotaryHall$Node")
  | 3 => .object "NotaryHall$Mailbox"
  | 4 => .array .int
  | 5 => .array .int
  | 6 => .array .int
  | _ => .int
theorem zMH : ∀ a, a < 8 → ∀ b, b < 8 → a ≠ b → (zTH a).2.1 ≠ (zTH b).2.1 := by decide +kernel
theorem zKH : ∀ k, k < 8 → parseFieldDescriptor (zTH k).2.2.1 = some (zYH k) := by decide +kernel
def zTN : u_T := fun k => match k with
  | 0 => ("NotaryHall$Node", "known", "I", false)
  | 1 => ("NotaryHall$Node", "recorded", "I", false)
  | 2 => ("NotaryHall$Node", "fetchedCount", "I", false)
  | _ => ("NotaryHall$Node", "consents", "I", false)
def zYN : Nat → FieldType := fun k => match k with
  | 0 => .int
  | 1 => .int
  | 2 => .int
  | _ => .int
theorem zMN : ∀ a, a < 4 → ∀ b, b < 4 → a ≠ b → (zTN a).2.1 ≠ (zTN b).2.1 := by decide +kernel
theorem zKN : ∀ k, k < 4 → parseFieldDescriptor (zTN k).2.2.1 = some (zYN k) := by decide +kernel
def zTB : u_T := fun k => match k with
  | 0 => ("NotaryHall$Mailbox", "codes", "[I", true)
  | _ => ("NotaryHall$Mailbox", "count", "I", false)
def zYB : Nat → FieldType := fun k => match k with
  | 0 => .array .int
  | _ => .int
theorem zMB : ∀ a, a < 2 → ∀ b, b < 2 → a ≠ b → (zTB a).2.1 ≠ (zTB b).2.1 := by decide +kernel
theorem zKB : ∀ k, k < 2 → parseFieldDescriptor (zTB k).2.2.1 = some (zYB k) := by decide +kernel
def zTT : u_T := fun k => match k with
  | 0 => ("NotaryHall$Transaction", "number", "I", true)
  | 1 => ("NotaryHall$Transaction", "initiator", "I", true)
  | 2 => ("NotaryHall$Transaction", "notary", "I", true)
  | 3 => ("NotaryHall$Transaction", "from", "I", true)
  | 4 => ("NotaryHall$Transaction", "until", "I", true)
  | 5 => ("NotaryHall$Transaction", "inputs", "LNotaryHall$StateList;", true)
  | 6 => ("NotaryHall$Transaction", "outputs", "LNotaryHall$StateList;", true)
  | 7 => ("NotaryHall$Transaction", "ancestors", "I", false)
  | 8 => ("NotaryHall$Transaction", "stage", "I", false)
  | 9 => ("NotaryHall$Transaction", "needed", "I", false)
  | 10 => ("NotaryHall$Transaction", "sound", "Z", false)
  | 11 => ("NotaryHall$Transaction", "signed", "I", false)
  | 12 => ("NotaryHall$Transaction", "decided", "I", false)
  | 13 => ("NotaryHall$Transaction", "agreed", "I", false)
  | _ => ("NotaryHall$Transaction", "verdict", "I", false)
def zYT : Nat → FieldType := fun k => match k with
  | 0 => .int
  | 1 => .int
  | 2 => .int
  | 3 => .int
  | 4 => .int
  | 5 => .object "NotaryHall$StateList"
  | 6 => .object "NotaryHall$StateList"
  | 7 => .int
  | 8 => .int
  | 9 => .int
  | 10 => .boolean
  | 11 => .int
  | 12 => .int
  | 13 => .int
  | _ => .int
theorem zMT : ∀ a, a < 15 → ∀ b, b < 15 → a ≠ b → (zTT a).2.1 ≠ (zTT b).2.1 := by decide +kernel
theorem zKT : ∀ k, k < 15 → parseFieldDescriptor (zTT k).2.2.1 = some (zYT k) := by decide +kernel
def zTL : u_T := fun k => match k with
  | 0 => ("NotaryHall$StateList", "states", "[LNotaryHall$State;", true)
  | _ => ("NotaryHall$StateList", "count", "I", false)
def zYL : Nat → FieldType := fun k => match k with
  | 0 => .array (.object "NotaryHall$State")
  | _ => .int
theorem zML : ∀ a, a < 2 → ∀ b, b < 2 → a ≠ b → (zTL a).2.1 ≠ (zTL b).2.1 := by decide +kernel
theorem zKL : ∀ k, k < 2 → parseFieldDescriptor (zTL k).2.2.1 = some (zYL k) := by decide +kernel
def zTS : u_T := fun k => match k with
  | 0 => ("NotaryHall$State", "number", "I", true)
  | 1 => ("NotaryHall$State", "kind", "I", true)
  | 2 => ("NotaryHall$State", "a", "I", true)
  | 3 => ("NotaryHall$State", "b", "I", true)
  | 4 => ("NotaryHall$State", "amount", "I", true)
  | _ => ("NotaryHall$State", "boundTo", "I", false)
def zYS : Nat → FieldType := fun k => match k with
  | 0 => .int
  | 1 => .int
  | 2 => .int
  | 3 => .int
  | 4 => .int
  | _ => .int
theorem zMS : ∀ a, a < 6 → ∀ b, b < 6 → a ≠ b → (zTS a).2.1 ≠ (zTS b).2.1 := by decide +kernel
theorem zKS : ∀ k, k < 6 → parseFieldDescriptor (zTS k).2.2.1 = some (zYS k) := by decide +kernel
def zTR : u_T := fun k => match k with
  | 0 => ("NotaryHallModel", "many", "I", false)
  | 1 => ("NotaryHallModel", "begunBy", "[I", false)
  | 2 => ("NotaryHallModel", "notaryOf", "[I", false)
  | 3 => ("NotaryHallModel", "fromTime", "[I", false)
  | 4 => ("NotaryHallModel", "untilTime", "[I", false)
  | 5 => ("NotaryHallModel", "stageOf", "[I", false)
  | 6 => ("NotaryHallModel", "hasty", "[Z", false)
  | 7 => ("NotaryHallModel", "signed", "[I", false)
  | 8 => ("NotaryHallModel", "verdictOf", "[I", false)
  | 9 => ("NotaryHallModel", "inputs", "[I", false)
  | 10 => ("NotaryHallModel", "outputs", "[I", false)
  | 11 => ("NotaryHallModel", "input", "[I", false)
  | 12 => ("NotaryHallModel", "kindOf", "[I", false)
  | 13 => ("NotaryHallModel", "first", "[I", false)
  | 14 => ("NotaryHallModel", "second", "[I", false)
  | 15 => ("NotaryHallModel", "amountOf", "[I", false)
  | 16 => ("NotaryHallModel", "boundTo", "[I", false)
  | 17 => ("NotaryHallModel", "usedBy", "[I", false)
  | 18 => ("NotaryHallModel", "knows", "[I", false)
  | 19 => ("NotaryHallModel", "decided", "[I", false)
  | 20 => ("NotaryHallModel", "fetches", "[I", false)
  | 21 => ("NotaryHallModel", "declines", "[Z", false)
  | 22 => ("NotaryHallModel", "waiting", "[I", false)
  | 23 => ("NotaryHallModel", "waits", "I", false)
  | 24 => ("NotaryHallModel", "clock", "I", false)
  | 25 => ("NotaryHallModel", "before", "[Z", false)
  | _ => ("NotaryHallModel", "mix", "[I", false)
def zYR : Nat → FieldType := fun k => match k with
  | 0 => .int
  | 1 => .array .int
  | 2 => .array .int
  | 3 => .array .int
  | 4 => .array .int
  | 5 => .array .int
  | 6 => .array .boolean
  | 7 => .array .int
  | 8 => .array .int
  | 9 => .array .int
  | 10 => .array .int
  | 11 => .array .int
  | 12 => .array .int
  | 13 => .array .int
  | 14 => .array .int
  | 15 => .array .int
  | 16 => .array .int
  | 17 => .array .int
  | 18 => .array .int
  | 19 => .array .int
  | 20 => .array .int
  | 21 => .array .boolean
  | 22 => .array .int
  | 23 => .int
  | 24 => .int
  | 25 => .array .boolean
  | _ => .array .int
theorem zMR : ∀ a, a < 27 → ∀ b, b < 27 → a ≠ b → (zTR a).2.1 ≠ (zTR b).2.1 := by decide +kernel
theorem zKR : ∀ k, k < 27 → parseFieldDescriptor (zTR k).2.2.1 = some (zYR k) := by decide +kernel
abbrev z_cl : List vw_C := [("NotaryHall", zTH, 8), ("NotaryHall$Node", zTN, 4), ("NotaryHall$Mailbox", zTB, 2), ("NotaryHall$Transaction", zTT, 15), ("NotaryHall$StateList", zTL, 2), ("NotaryHall$State", zTS, 6), ("NotaryHallModel", zTR, 27)]
def z_ws : List Cond := lw_tbl.filter goodWord
theorem z_in {i : Nat} {w : Cond} (h : lw_tbl[i]? = some w) (hg : goodWord w = true) : w ∈ z_ws := List.mem_filter.mpr ⟨List.mem_of_getElem? h, hg⟩
theorem z_good (w : Cond) (h : w ∈ z_ws) : (w.onTables && w.keeps) = true ∨ ∃ ty, w = .arrayClass ty := good_of_word (List.mem_filter.mp h).2
def z_tys (cA : Nat → ClassId) : List (ClassId × FieldType) := [(cA 0, .int), (cA 1, .boolean), (cA 2, .object "NotaryHall$Transaction"), (cA 3, .object "NotaryHall$State"), (cA 4, .object "NotaryHall$Node")]
def z_ao : List String := ["NotaryHall$Transaction", "NotaryHall$State", "NotaryHall$Node"]
def z_nw : List (String × Nat × MethodName × String) := [("NotaryHall$Node", 9, ⟨"NotaryHall", "bit", "(I)I"⟩, "NotaryHall"), ("NotaryHall$Transaction", 46, ⟨"NotaryHall", "bit", "(I)I"⟩, "NotaryHall"), ("NotaryHall$Transaction", 65, ⟨"NotaryHall", "has", "(II)Z"⟩, "NotaryHall")]
theorem zLH : ∀ w ∈ u_ws "NotaryHall" zTH 8, w ∈ z_ws := by decide +kernel
theorem zLN : ∀ w ∈ u_ws "NotaryHall$Node" zTN 4, w ∈ z_ws := by decide +kernel
theorem zLB : ∀ w ∈ u_ws "NotaryHall$Mailbox" zTB 2, w ∈ z_ws := by decide +kernel
theorem zLT : ∀ w ∈ u_ws "NotaryHall$Transaction" zTT 15, w ∈ z_ws := by decide +kernel
theorem zLL : ∀ w ∈ u_ws "NotaryHall$StateList" zTL 2, w ∈ z_ws := by decide +kernel
theorem zLS : ∀ w ∈ u_ws "NotaryHall$State" zTS 6, w ∈ z_ws := by decide +kernel
theorem zLR : ∀ w ∈ u_ws "NotaryHallModel" zTR 27, w ∈ z_ws := by decide +kernel
end
section
-- own rows: stores that keep the size of the heap, new cells at the heap's end
section
variable {p : Program} {l : Launch} {e : Env} {R : Room} {s : State} {m : MethodId} {args : Array Value} {below : List Frame} {meth : Method} {c : Code} {H H0 : Heap} {locs : List Loc} {cells slots : Nat} {Q : State → Prop}
variable {cc : ByteArray} {pc : Nat} {ls : Array Slot} {rest : List Value} {D : va_G} {cl : List vw_C} {tys : List (ClassId × FieldType)} {ws : va_W} {A : Nat → Prop} {a : Nat}
theorem z_put (hexec : p.tables.exec = Jvm.exec) (hb : c.code = cc) {own ref C : String} {T : u_T} {N ci index : Nat} {Ts : List Cond} (hts : ∀ w ∈ Ts, w.before args s = true) (hin : ∀ w ∈ u_ws C T N, w ∈ Ts) (ty0 : Nat → FieldType) (hty : ∀ k, k < N → parseFieldDescriptor (T k).2.2.1 = some (ty0 k)) (hnm : ∀ a, a < N → ∀ b, b < N → a ≠ b → (T a).2.1 ≠ (T b).2.1) (hown : s.vm.findClass own = some m.cls) (hK : va_K D cl tys s) (hP : va_P D cl ws H) (hD : va_D A ws) (hS0 : va_S A H0 H locs) (q0 : Nat) {fs : List Value} (he : ws[q0]? = some (a, .inr (ci, fs))) (hc : cl[ci]? = some (C, T, N)) (k : Nat) (hk : k < N) (hlink : (Cond.fieldLink own index ref (T k).2.1 (T k).2.2.1).before args s = true) (hsame : ∀ x, s.fieldFound? (T k).1 (T k).2.1 (T k).2.2.1 = some x → s.fieldFound? ref (T k).2.1 (T k).2.2.1 = some x) (hfin : (T k).2.2.2 = false) {ty : FieldType} {v : Value} (hd : parseFieldDescriptor (T k).2.2.1 = some ty) (hn : narrow ty v = v) (hfit : fits ty v = true) (hl : k < fs.length)
    (hdg : decode cc pc = .ok (.putfield index, 3)) (kk : ∀ (H1 : Heap) (locs1 : List Loc), H1.size = H.size → va_P D cl (ws.set q0 (a, .inr (ci, fs.set k v))) H1 → va_S A H0 H1 locs1 → W p l e R s m args below meth c H1 locs1 cells slots Q (F0 m (pc + 3) ls rest)) : W p l e R s m args below meth c H locs cells slots Q (F0 m pc ls (v :: .ref a :: rest)) := by
  have hap := va_apart (own := own) hts hin ty0 hty hnm hK hc
  obtain ⟨r, h1, cell, q1, q2, q3, q4⟩ := hP q0 _ he
  have hr : r = (C, T, N) := Option.some.inj (h1.symm.trans hc)
  subst hr
  obtain ⟨hS, hfc, kC, hkC, hkind⟩ := hK.1 ci _ hc
  obtain ⟨cf, kf, fi, f, hi, hsl⟩ := hS k hk
  have hlay := hts _ (hin _ (u_in_lay hk))
  unfold u_lay at hlay
  rw [if_neg (by rw [hfin]; decide)] at hlay
  have hst := (u_facts hfc hkC (u_lays hts hin hk) hi).1
  have h6 := u_store hfc hkC hkind hlay hi hd hn hfit
  refine W.putK hexec hb (f := f) ⟨hown, hlink, ⟨_, _, _, hsame _ hi⟩, hst⟩ (by rw [q2]; exact h6) q1 q3 (by rw [hsl]; exact k2_hasslot (q4 k hk)) rfl rfl hdg fun H' e1 e2 e3 => ?_
  rw [hsl] at e1 ⊢
  exact kk H' _ e2 (hP.set hD he ⟨_, hc, t_OB.to (V := updV (vp_V fs) k v) ⟨_, e1, q2, q3, t_set q4 hap hk v⟩ (fun j _ => vp_updV_set hl v j)⟩ e3) (hS0.put e2 e3 (hD.2 q0 _ he))
theorem z_putF (hexec : p.tables.exec = Jvm.exec) (hb : c.code = cc) {own ref C : String} {T : u_T} {N ci index : Nat} {Ts : List Cond} (hts : ∀ w ∈ Ts, w.before args s = true) (hin : ∀ w ∈ u_ws C T N, w ∈ Ts) (ty0 : Nat → FieldType) (hty : ∀ k, k < N → parseFieldDescriptor (T k).2.2.1 = some (ty0 k)) (hnm : ∀ a, a < N → ∀ b, b < N → a ≠ b → (T a).2.1 ≠ (T b).2.1) (hown : s.vm.findClass own = some m.cls) (hK : va_K D cl tys s) (hP : va_P D cl ws H) (hD : va_D A ws) (hS0 : va_S A H0 H locs) (q0 : Nat) {fs : List Value} (he : ws[q0]? = some (a, .inr (ci, fs))) (hc : cl[ci]? = some (C, T, N)) (k : Nat) (hk : k < N) (hlink : (Cond.fieldLink own index ref (T k).2.1 (T k).2.2.1).before args s = true) (hsame : ∀ x, s.fieldFound? (T k).1 (T k).2.1 (T k).2.2.1 = some x → s.fieldFound? ref (T k).2.1 (T k).2.2.1 = some x) (hfin : (T k).2.2.2 = true) (hin2 : meth.name = "<init>") (hdecl : (T k).1 = own) {ty : FieldType} {v : Value} (hd : parseFieldDescriptor (T k).2.2.1 = some ty) (hn : narrow ty v = v) (hfit : fits ty v = true) (hl : k < fs.length)
    (hdg : decode cc pc = .ok (.putfield index, 3)) (kk : ∀ (H1 : Heap) (locs1 : List Loc), H1.size = H.size → va_P D cl (ws.set q0 (a, .inr (ci, fs.set k v))) H1 → va_S A H0 H1 locs1 → W p l e R s m args below meth c H1 locs1 cells slots Q (F0 m (pc + 3) ls rest)) : W p l e R s m args below meth c H locs cells slots Q (F0 m pc ls (v :: .ref a :: rest)) := by
  have hap := va_apart (own := own) hts hin ty0 hty hnm hK hc
  obtain ⟨r, h1, cell, q1, q2, q3, q4⟩ := hP q0 _ he
  have hr : r = (C, T, N) := Option.some.inj (h1.symm.trans hc)
  subst hr
  obtain ⟨hS, hfc, kC, hkC, hkind⟩ := hK.1 ci _ hc
  obtain ⟨cf, kf, fi, f, hi, hsl⟩ := hS k hk
  have hlay := hts _ (hin _ (u_in_lay hk))
  unfold u_lay at hlay
  rw [if_pos hfin] at hlay
  have hst := (u_facts hfc hkC (u_lays hts hin hk) hi).1
  have hcf : m.cls = cf := by
    obtain ⟨_, _, c', _, _, _, -, -, hf', -, -, -, hown2, -⟩ := Cond.laysFinal_spec hlay
    have e1 : c' = cf := by have := hi.symm.trans hf'; simp at this; exact this.1.symm
    rw [hdecl] at hown2
    rw [← e1]; exact Option.some.inj (hown.symm.trans hown2)
  have h6 := u_fits hfc hkC hkind (Or.inr hlay) hi hd hn hfit
  refine W.putFinK hexec hb hown hlink (hsame _ hi) hst hcf hin2 (by rw [q2]; exact h6) q1 q3 (by rw [hsl]; exact k2_hasslot (q4 k hk)) rfl rfl hdg fun H' e1 e2 e3 => ?_
  rw [hsl] at e1 ⊢
  exact kk H' _ e2 (hP.set hD he ⟨_, hc, t_OB.to (V := updV (vp_V fs) k v) ⟨_, e1, q2, q3, t_set q4 hap hk v⟩ (fun j _ => vp_updV_set hl v j)⟩ e3) (hS0.put e2 e3 (hD.2 q0 _ he))
theorem z_iast (hexec : p.tables.exec = Jvm.exec) (hb : c.code = cc) (hK : va_K D cl tys s) (hP : va_P D cl ws H) (hD : va_D A ws) (hS : va_S A H0 H locs) (q0 t0 : Nat) {cA : ClassId} {n : Nat} {f : Nat → Int32} (ha : ws[q0]? = some (a, .inl (cA, n, .inl f))) (ht : tys[t0]? = some (cA, .int)) {i : Int32} {x : Int32} (hin : vp_in i n) (hdg : decode cc pc = .ok (.iastore, 1))
    (kk : ∀ (H1 : Heap) (locs1 : List Loc), H1.size = H.size → va_P D cl (ws.set q0 (a, .inl (cA, n, .inl (upd f i.toNatClampNeg x)))) H1 → va_S A H0 H1 locs1 → W p l e R s m args below meth c H1 locs1 cells slots Q (F0 m (pc + 1) ls rest)) : W p l e R s m args below meth c H locs cells slots Q (F0 m pc ls (.int x :: .int i :: .ref a :: rest)) := by
  refine W.iast hexec hb (hP q0 _ ha) ((hK.2 t0 _ ht).1 n (fun j => .int (f j))) (fun q => by cases q) (by show ¬ (i < 0 ∨ (arrV _ _ _).slots.size ≤ _); rw [arrV_size]; exact hin) rfl rfl hdg fun H1 e z oq => ?_
  refine kk H1 _ z (hP.set hD ha ?_ oq) (hS.put z oq (hD.2 q0 _ ha))
  show H1[a]? = some (vp_cell _ _)
  rw [e]
  rw [vp_cell_i, vp_cell_i, arrV_store]
  congr 2
  funext q
  by_cases hq : q = i.toNatClampNeg
  · subst hq
    simp [updV, upd]
  · simp [updV, upd, hq]
theorem z_zast (hexec : p.tables.exec = Jvm.exec) (hb : c.code = cc) (hK : va_K D cl tys s) (hP : va_P D cl ws H) (hD : va_D A ws) (hS : va_S A H0 H locs) (q0 t0 : Nat) {cA : ClassId} {n : Nat} {f : Nat → Int32} (ha : ws[q0]? = some (a, .inl (cA, n, .inl f))) (ht : tys[t0]? = some (cA, .boolean)) {i : Int32} {x : Int32} (hx : narrow .boolean (.int x) = .int x) (hin : vp_in i n) (hdg : decode cc pc = .ok (.bastore, 1))
    (kk : ∀ (H1 : Heap) (locs1 : List Loc), H1.size = H.size → va_P D cl (ws.set q0 (a, .inl (cA, n, .inl (upd f i.toNatClampNeg x)))) H1 → va_S A H0 H1 locs1 → W p l e R s m args below meth c H1 locs1 cells slots Q (F0 m (pc + 1) ls rest)) : W p l e R s m args below meth c H locs cells slots Q (F0 m pc ls (.int x :: .int i :: .ref a :: rest)) := by
  refine W.zast hexec hb (hP q0 _ ha) ((hK.2 t0 _ ht).1 n (fun j => .int (f j))) (fun q => by cases q) (by show ¬ (i < 0 ∨ (arrV _ _ _).slots.size ≤ _); rw [arrV_size]; exact hin) rfl rfl hdg fun H1 e z oq => ?_
  refine kk H1 _ z (hP.set hD ha ?_ oq) (hS.put z oq (hD.2 q0 _ ha))
  show H1[a]? = some (vp_cell _ _)
  rw [e, hx]
  rw [vp_cell_i, vp_cell_i, arrV_store]
  congr 2
  funext q
  by_cases hq : q = i.toNatClampNeg
  · subst hq
    simp [updV, upd]
  · simp [updV, upd, hq]
theorem z_astq (hexec : p.tables.exec = Jvm.exec) (hb : c.code = cc) (hK : va_K D cl tys s) (hP : va_P D cl ws H) (hD : va_D A ws) (hS : va_S A H0 H locs) (q0 t0 qk ci : Nat) {cA : ClassId} {r : vw_C} {n v : Nat} {vs : List Value} {f : Nat → Option Nat} (ha : ws[q0]? = some (a, .inl (cA, n, .inr (.inr (.inr (.inr f)))))) (ht : tys[t0]? = some (cA, .object r.1)) (hv : ws[qk]? = some (v, .inr (ci, vs))) (hc : cl[ci]? = some r) {i : Int32} (hin : vp_in i n) (hdg : decode cc pc = .ok (.aastore, 1))
    (kk : ∀ (H1 : Heap) (locs1 : List Loc), H1.size = H.size → va_P D cl (ws.set q0 (a, .inl (cA, n, .inr (.inr (.inr (.inr (va_up f i.toNatClampNeg (some v)))))))) H1 → va_S A H0 H1 locs1 → W p l e R s m args below meth c H1 locs1 cells slots Q (F0 m (pc + 1) ls rest)) : W p l e R s m args below meth c H locs cells slots Q (F0 m pc ls (.ref v :: .int i :: .ref a :: rest)) := by
  have hlt : i.toNatClampNeg < n := Nat.not_le.mp fun q => hin (Or.inr q)
  have h0 : ¬ i < 0 := fun q => hin (Or.inl q)
  obtain ⟨r', hr', cellV, g1, g2, g3, -⟩ := hP qk _ hv
  have hcls := (hK.1 ci r hc).2
  obtain ⟨kA, comp, k1, k2, k3, -⟩ := (hK.2 t0 _ ht).2
  have hcomp : comp = D.1 ci := Option.some.inj (k3.symm.trans hcls.1)
  subst hcomp
  obtain ⟨kC, hkC, -⟩ := hcls.2
  refine W.aast hexec hb (hP q0 _ ha) (fun q h => by cases h) (fun h => by cases h) k1 k2 rfl hkC ⟨h0, by show _ < (arrV _ _ _).slots.size; rw [arrV_size]; exact hlt⟩ g1 (fun q h => by rw [g3] at h; cases h) (by rw [g2]; exact hkC) (by rw [g2]; exact va_assign hcls) rfl rfl hdg fun H1 e z oq => ?_
  refine kk H1 _ z (hP.set hD ha ?_ oq) (hS.put z oq (hD.2 q0 _ ha))
  show H1[a]? = some (vp_cell _ _)
  rw [e]
  rw [vp_cell_q, vp_cell_q, arrV_store]
  congr 2
  funext q
  by_cases hq : q = i.toNatClampNeg
  · subst hq
    simp [updV, va_up, va_rf]
  · simp [updV, va_up, hq]
theorem z_new (hexec : p.tables.exec = Jvm.exec) (hb : c.code = cc) {own C : String} {T : u_T} {N ci index : Nat} {Ts : List Cond} (hts : ∀ w ∈ Ts, w.before args s = true) (hin : ∀ w ∈ u_ws C T N, w ∈ Ts) (ty : Nat → FieldType) (hty : ∀ k, k < N → parseFieldDescriptor (T k).2.2.1 = some (ty k)) (hown : s.vm.findClass own = some m.cls) (hcl : (Cond.classLink own index C).before args s = true) (hinst : (Cond.instantiable C N).before args s = true) (hini : (Cond.initialized C).before args s = true)
    (hK : va_K D cl tys s) (hP : va_P D cl ws H) (hS : va_S A H0 H locs) (hc : cl[ci]? = some (C, T, N)) {fs : List Value} (hfs : ∀ j, j < N → defaultValue (ty j) = vp_V fs j) (hcells : cells + 1 ≤ R.cells) (hslots : slots + N ≤ R.slots) (hdg : decode cc pc = .ok (.new index, 3))
    (kk : ∀ (H1 : Heap), H1.size = H.size + 1 → va_P D cl (ws ++ [(H.size, .inr (ci, fs))]) H1 → va_S A H0 H1 locs →
      W p l e R s m args below meth c H1 locs (cells + 1) (slots + N) Q (F0 m (pc + 3) ls (.ref H.size :: rest))) : W p l e R s m args below meth c H locs cells slots Q (F0 m pc ls rest) := by
  have hKn := hK.1 ci _ hc
  refine W.newcK hexec hb hown hcl hinst hini rfl hdg hcells hslots hKn.2.1 rfl fun H1 kC hkC e1 z1 o1 => ?_
  have hk : ∀ (k : Nat) (x : Nat × va_E), ws[k]? = some x → H1[x.1]? = H[x.1]? := fun k x hx => o1 x.1 ((hP k x hx).lt)
  refine kk H1 z1 ((hP.kept hk).app (fun k x hx => ?_)) ⟨Nat.le_trans hS.1 (by omega), fun x h1 h2 => (o1 x (Nat.lt_of_lt_of_le h1 hS.1)).trans (hS.2.1 x h1 h2), hS.2.2⟩
  have hz : k < 1 := (List.getElem?_eq_some_iff.mp hx).1
  rw [show k = 0 by omega] at hx
  cases hx
  exact ⟨_, hc, (u_born ty hts hin hKn hkC e1 hty).to hfs⟩
theorem z_newa (hexec : p.tables.exec = Jvm.exec) (hb : c.code = cc) {atype : ArrayType} (harr : (Cond.arrayClass (newarray.typeOf atype)).before args s = true) {ty : FieldType} (hty : newarray.typeOf atype = ty) (hP : va_P D cl ws H) (hS : va_S A H0 H locs)
    {n : Int32} {N' : Nat} {a0 : vp_A} (ha : ∀ cA : ClassId, vp_cell cA a0 = arrV cA N' (fun _ => defaultValue ty)) {cA : ClassId} (hcA : s.vm.findClass ("[" ++ ty.toString) = some cA) (hn : ¬ n < 0) (hN : n.toNatClampNeg = N') (hbytes : N' * componentBytes ty ≤ 536870912) (hcells : cells + 1 ≤ R.cells) (hslots : slots + N' ≤ R.slots) (hdg : decode cc pc = .ok (.newarray atype, 2))
    (kk : ∀ (H1 : Heap), H1.size = H.size + 1 → va_P D cl (ws ++ [(H.size, .inl (cA, a0))]) H1 → va_S A H0 H1 locs →
      W p l e R s m args below meth c H1 locs (cells + 1) (slots + N') Q (F0 m (pc + 2) ls (.ref H.size :: rest))) : W p l e R s m args below meth c H locs cells slots Q (F0 m pc ls (.int n :: rest)) := by
  subst hty
  refine va_newaK hexec hb harr rfl hdg rfl hn hN hbytes hcells hslots rfl fun H1 cA' e1 z1 o1 hAr hNm => ?_
  have hcc : cA' = cA := Option.some.inj (hNm.symm.trans hcA)
  subst hcc
  have hk : ∀ (k : Nat) (x : Nat × va_E), ws[k]? = some x → H1[x.1]? = H[x.1]? := fun k x hx => o1 x.1 ((hP k x hx).lt)
  refine kk H1 z1 ((hP.kept hk).app (fun k x hx => ?_)) ⟨Nat.le_trans hS.1 (by omega), fun x h1 h2 => (o1 x (Nat.lt_of_lt_of_le h1 hS.1)).trans (hS.2.1 x h1 h2), hS.2.2⟩
  have hz : k < 1 := (List.getElem?_eq_some_iff.mp hx).1
  rw [show k = 0 by omega] at hx
  cases hx
  show H1[H.size]? = some (vp_cell _ _)
  rw [ha]
  exact e1
theorem z_newq (hexec : p.tables.exec = Jvm.exec) (hb : c.code = cc) {own C : String} {index : Nat} (hown : s.vm.findClass own = some m.cls) (hclink : (Cond.classLink own index C).before args s = true) (hover : va_AO C s) (hP : va_P D cl ws H) (hS : va_S A H0 H locs)
    {n : Int32} {N' : Nat} {cA : ClassId} (hcA : s.vm.findClass ("[" ++ (FieldType.object C).toString) = some cA) (hn : ¬ n < 0) (hN : n.toNatClampNeg = N') (hbytes : N' * 4 ≤ 536870912) (hcells : cells + 1 ≤ R.cells) (hslots : slots + N' ≤ R.slots) (hdg : decode cc pc = .ok (.anewarray index, 3))
    (kk : ∀ (H1 : Heap), H1.size = H.size + 1 → va_P D cl (ws ++ [(H.size, .inl (cA, N', .inr (.inr (.inr (.inr (fun _ => none))))))]) H1 → va_S A H0 H1 locs →
      W p l e R s m args below meth c H1 locs (cells + 1) (slots + N') Q (F0 m (pc + 3) ls (.ref H.size :: rest))) : W p l e R s m args below meth c H locs cells slots Q (F0 m pc ls (.int n :: rest)) := by
  subst hN
  refine W.anew hexec hb hown hclink (va_AO.use hover) rfl hdg rfl hn hbytes hcells hslots fun cA' kA comp f1 f2 f3 f4 => ?_
  have hcc : cA' = cA := Option.some.inj (f1.symm.trans hcA)
  subst hcc
  generalize hH1 : H.push ({ cls := cA', slots := Array.replicate n.toNatClampNeg .null, vm := .none } : Cell) = H1
  have z1 : H1.size = H.size + 1 := by rw [← hH1, Array.size_push]
  have e1 : H1[H.size]? = some (arrV cA' n.toNatClampNeg (fun _ => .null)) := by rw [← hH1, Array.getElem?_push_size, ← arrV_new]
  have o1 : ∀ q : Nat, q < H.size → H1[q]? = H[q]? := fun q hq => by rw [← hH1, Array.getElem?_push, if_neg (Nat.ne_of_lt hq)]
  have hk : ∀ (k : Nat) (x : Nat × va_E), ws[k]? = some x → H1[x.1]? = H[x.1]? := fun k x hx => o1 x.1 ((hP k x hx).lt)
  refine kk H1 z1 ((hP.kept hk).app (fun k x hx => ?_)) ⟨Nat.le_trans hS.1 (by omega), fun x h1 h2 => (o1 x (Nat.lt_of_lt_of_le h1 hS.1)).trans (hS.2.1 x h1 h2), hS.2.2⟩
  have hz : k < 1 := (List.getElem?_eq_some_iff.mp hx).1
  rw [show k = 0 by omega] at hx
  cases hx
  show H1[H.size]? = some (vp_cell _ _)
  rw [vp_cell_q]
  exact e1
end
-- a machine in between: references count from the base b, the script is .retAddr, an unset local is a float
def z_tv (b sc : Nat) (v : Value) : Value := match v with
  | .int x => .int x
  | .ref k => .ref (b + k)
  | .null => .null
  | .retAddr _ => .ref sc
  | v => v
def z_ta (b : Nat) (x : vp_A) : vp_A := (x.1, match x.2 with
  | .inr (.inr (.inr (.inr f))) => .inr (.inr (.inr (.inr (fun j => (f j).map (fun k => b + k)))))
  | y => y)
def z_te (b sc : Nat) (cA : Nat → ClassId) (e : va_E) : va_E := match e with
  | .inl o => .inl (cA o.1, z_ta b o.2)
  | .inr o => .inr (o.1, o.2.map (z_tv b sc))
def z_tw (b sc : Nat) (cA : Nat → ClassId) (M : List va_E) : va_W := M.mapIdx (fun k e => (b + k, z_te b sc cA e))
theorem z_tw_at {b sc : Nat} {cA : Nat → ClassId} {M : List va_E} {k : Nat} {e : va_E} (h : M[k]? = some e) : (z_tw b sc cA M)[k]? = some (b + k, z_te b sc cA e) := by
  simp [z_tw, h]
theorem z_tw_set {b sc : Nat} {cA : Nat → ClassId} {M : List va_E} {k : Nat} {e : va_E} : (z_tw b sc cA M).set k (b + k, z_te b sc cA e) = z_tw b sc cA (M.set k e) := by
  apply List.ext_getElem?
  intro j
  by_cases hj : k = j
  · subst hj
    by_cases hk : k < M.length
    · simp [z_tw, List.getElem?_set, hk]
    · simp [z_tw, List.getElem?_set, hk]
  · simp [z_tw, List.getElem?_set, hj]
theorem z_tw_app {b sc : Nat} {cA : Nat → ClassId} {M : List va_E} {e : va_E} : z_tw b sc cA M ++ [(b + M.length, z_te b sc cA e)] = z_tw b sc cA (M ++ [e]) := by
  simp [z_tw, List.mapIdx_append]
theorem z_tw_D (b sc : Nat) (cA : Nat → ClassId) (M : List va_E) : va_D (fun q => b ≤ q) (z_tw b sc cA M) := by
  have key : ∀ (k : Nat) (q : Nat × va_E), (z_tw b sc cA M)[k]? = some q → q.1 = b + k := by
    intro k q h
    simp only [z_tw, List.getElem?_mapIdx] at h
    obtain ⟨e, -, rfl⟩ := Option.map_eq_some_iff.mp h
    rfl
  refine ⟨fun i j p q hi hj h => ?_, fun k q h => ?_⟩
  · have h1 := key i p hi
    have h2 := key j q hj
    omega
  · have h1 := key k q h
    show b ≤ q.1
    omega
def z_real (v : Value) : Bool := match v with
  | .int _ => true
  | .ref _ => true
  | .null => true
  | .retAddr _ => true
  | _ => false
theorem z_real_cat {b sc : Nat} {v : Value} (h : z_real v = true) : (z_tv b sc v).category = 1 := by
  cases v <;> first | rfl | (simp [z_real] at h)
def z_L (b sc : Nat) (ls : Array Slot) (n : Nat) (L : List Value) : Prop := ls.size = n ∧ L.length = n ∧ lv_wf ls ∧ ∀ (i : Nat) (v : Value), L[i]? = some v → z_real v = true → ls[i]? = some (.val (z_tv b sc v))
def z_lv (b sc n : Nat) (L : List Value) : List (Nat × Value) := (List.range n).filterMap fun j => match L[j]? with
  | some v => if z_real v = true then some (j, z_tv b sc v) else none
  | none => none
theorem z_lv_mem {b sc n : Nat} {L : List Value} {q : Nat × Value} : q ∈ z_lv b sc n L ↔ ∃ (j : Nat) (v : Value), j < n ∧ L[j]? = some v ∧ z_real v = true ∧ q = (j, z_tv b sc v) := by
  unfold z_lv
  rw [List.mem_filterMap]
  constructor
  · rintro ⟨j, hj, h⟩
    rw [List.mem_range] at hj
    cases hL : L[j]? with
    | none => simp [hL] at h
    | some v =>
      simp only [hL] at h
      by_cases hr : z_real v = true
      · simp only [hr, if_true] at h
        exact ⟨j, v, hj, hL, hr, (Option.some.inj h).symm⟩
      · simp [hr] at h
  · rintro ⟨j, v, hj, hL, hr, rfl⟩
    exact ⟨j, List.mem_range.mpr hj, by simp [hL, hr]⟩
theorem z_L.has {b sc n : Nat} {ls : Array Slot} {L : List Value} (h : z_L b sc ls n L) : lv_has ls n (z_lv b sc n L) := by
  refine ⟨h.1, h.2.2.1, fun q hq => ?_⟩
  obtain ⟨j, v, -, hL, hr, rfl⟩ := z_lv_mem.mp hq
  exact h.2.2.2 j v hL hr
theorem z_L.set {b sc n i : Nat} {ls ls' : Array Slot} {L : List Value} {w v : Value} (h : z_L b sc ls n L) (hw : z_tv b sc v = w) (h' : lv_has ls' n ((i, w) :: (z_lv b sc n L).filter (fun q => !(q.1 == i) && !(q.1 + 1 == i && q.2.category == 2)))) : z_L b sc ls' n (L.set i v) := by
  refine ⟨h'.1, by rw [List.length_set]; exact h.2.1, h'.2.1, fun j x hj hr => ?_⟩
  by_cases hi : i = j
  · subst hi
    by_cases hl : i < L.length
    · rw [List.getElem?_set_self hl] at hj
      cases hj
      rw [hw]
      exact h'.2.2 (i, w) List.mem_cons_self
    · rw [List.getElem?_eq_none (by rw [List.length_set]; omega)] at hj
      cases hj
  · rw [List.getElem?_set_ne hi] at hj
    have hjn : j < n := by rw [← h.2.1]; exact (List.getElem?_eq_some_iff.mp hj).1
    refine h'.2.2 (j, z_tv b sc x) (List.mem_cons_of_mem _ (List.mem_filter.mpr ⟨z_lv_mem.mpr ⟨j, x, hjn, hj, hr, rfl⟩, ?_⟩))
    have h1 : ¬ j = i := fun e => hi e.symm
    simp [h1, z_real_cat hr]
/-- the words that are not kept by themselves: links to a nest mate's methods, arrays over a class -/
def z_Wd (U : State) : Prop := (∀ q ∈ z_nw, va_Nw (.methodLinkNest q.1 q.2.1 q.2.2.1 q.2.2.2) U) ∧ ∀ C ∈ z_ao, va_AO C U
theorem z_Wd.moved {s U : State} (hW : s.WarmedH U.vm) (h : z_Wd s) : z_Wd U := ⟨fun q hq => va_Nw.warmM hW (h.1 q hq), fun C hC => va_AO.moved hW.alike (h.2 C hC)⟩
theorem z_Wd.same {s U : State} (hW : s.vm = U.vm) (h : z_Wd s) : z_Wd U := ⟨fun q hq => va_Nw.same rfl hW (h.1 q hq), fun C hC => va_AO.moved (by rw [hW]; exact Vm.Alike.refl _) (h.2 C hC)⟩
def z_Cx (Y : z_MD) (p : Program) (s : State) (m : MethodId) (args : Array Value) (meth : Method) (c : Code) (b sc : Nat) (D : va_G) (cA : Nat → ClassId) : Prop :=
  p.tables.exec = Jvm.exec ∧ c.code = Y.2.1 ∧ c.maxLocals = Y.2.2.1 ∧ s.vm.findClass Y.1.cls = some m.cls ∧ (∀ w ∈ z_ws, w.before args s = true) ∧ va_K D z_cl (z_tys cA) s ∧ z_Wd s ∧ meth.name = Y.1.name ∧ (Y.2.2.2.2.1 ≠ 0 → va_X sc Y.2.2.2.2.1 Y.2.2.2.2.2 s s.heap ∧ sc < s.heap.size ∧ ¬ b ≤ sc) ∧ b ≤ s.heap.size
def z_Hy (Y : z_MD) (d : Nat × Nat) (kc ks : Nat) (L : List Value) (M : List va_E) (p : Program) (R : Room) (s : State) (m : MethodId) (args : Array Value) (meth : Method) (c : Code) (b sc : Nat) (D : va_G) (cA : Nat → ClassId) (H : Heap) (locs : List Loc) (cells slots : Nat) (ls : Array Slot) : Prop :=
  z_Cx Y p s m args meth c b sc D cA ∧ (d.1 ≤ R.frames ∧ d.2 ≤ R.locals ∧ cells + kc ≤ R.cells ∧ slots + ks ≤ R.slots) ∧ va_P D z_cl (z_tw b sc cA M) H ∧ H.size = b + M.length ∧ va_S (fun q => b ≤ q) s.heap H locs ∧ z_L b sc ls Y.2.2.1 L
/-- a method's end at pc, with the answer r -/
def z_re (Y : z_MD) (pc : Nat) (r : Option Value) : Prop := match r with
  | none => decode Y.2.1 pc = .ok (.return_, 1) ∧ Y.2.2.2.1 = none
  | some v => (∃ (x : Int32) (ty : FieldType), v = .int x ∧ decode Y.2.1 pc = .ok (.ireturn, 1) ∧ Y.2.2.2.1 = some ty ∧ narrow ty (.int x) = .int x) ∨ (∃ C : String, (v = .null ∨ ∃ k, v = .ref k) ∧ decode Y.2.1 pc = .ok (.areturn, 1) ∧ Y.2.2.2.1 = some (.object C))
def z_Rt (Y : z_MD) (Q : Option Value → List va_E → Prop) (p : Program) (l : Launch) (e : Env) (R : Room) (s : State) (m : MethodId) (args : Array Value) (below : List Frame) (meth : Method) (c : Code) (b sc : Nat) (D : va_G) (cA : Nat → ClassId) (Qm : State → Prop) : Prop :=
  ∀ (r : Option Value) (M : List va_E) (H : Heap) (locs : List Loc) (cells slots pc : Nat) (ls : Array Slot), Q r M → va_P D z_cl (z_tw b sc cA M) H → H.size = b + M.length → va_S (fun q => b ≤ q) s.heap H locs → cells ≤ R.cells → slots ≤ R.slots → z_re Y pc r → W p l e R s m args below meth c H locs cells slots Qm (F0 m pc ls (r.toList.map (z_tv b sc)))
/-- from pc, with the locals L, the stack S and the cells M, the method Y comes to its end with Q; d calls deep at most, kc cells of ks slots at most are new -/
def z_Ev (Y : z_MD) (d : Nat × Nat) (kc ks pc : Nat) (L S : List Value) (M : List va_E) (Q : Option Value → List va_E → Prop) : Prop :=
  ∀ (p : Program) (l : Launch) (e : Env) (R : Room) (s : State) (m : MethodId) (args : Array Value) (below : List Frame) (meth : Method) (c : Code) (b sc : Nat) (D : va_G) (cA : Nat → ClassId) (H : Heap) (locs : List Loc) (cells slots : Nat) (ls : Array Slot) (Qm : State → Prop),
    z_Hy Y d kc ks L M p R s m args meth c b sc D cA H locs cells slots ls → z_Rt Y Q p l e R s m args below meth c b sc D cA Qm → W p l e R s m args below meth c H locs cells slots Qm (F0 m pc ls (S.map (z_tv b sc)))
def z_Pc (b sc : Nat) (D : va_G) (cA : Nat → ClassId) (As : List Value) (M : List va_E) : Array Value → State → Prop := fun a U => a = (As.map (z_tv b sc)).toArray ∧ va_P D z_cl (z_tw b sc cA M) U.heap ∧ U.heap.size = b + M.length ∧ va_K D z_cl (z_tys cA) U ∧ z_Wd U
def z_Qc (b sc : Nat) (D : va_G) (cA : Nat → ClassId) (Q : Option Value → List va_E → Prop) : Array Value → State → Outcome → State → Prop := fun _ st o t => ∃ (r : Option Value) (M : List va_E), o = .returned (r.map (z_tv b sc)) ∧ Q r M ∧ va_P D z_cl (z_tw b sc cA M) t.heap ∧ t.heap.size = b + M.length ∧ va_F (fun q => b ≤ q) st t
/-- a contract: the method Y at the arguments As and the cells M returns, and Q -/
def z_Sp (Y : z_MD) (d : Nat × Nat) (mc ms : Nat) (As : List Value) (M : List va_E) (Q : Option Value → List va_E → Prop) : Prop :=
  ∀ (l : Launch) (b sc : Nat) (D : va_G) (cA : Nat → ClassId), Met l Y.1 (Cond.code Y.1 Y.2.1 Y.2.2.1 Y.2.2.2.1 :: z_ws) { frames := d.1, cells := mc, slots := ms, locals := d.2 } (z_Pc b sc D cA As M) (z_Qc b sc D cA Q) mc ms (fun q => b ≤ q)
theorem z_blind (b sc : Nat) (D : va_G) (cA : Nat → ClassId) (As : List Value) (M : List va_E) : FrameBlind (z_Pc b sc D cA As M) := by
  intro a U g mk h
  obtain ⟨h1, h2, h3, h4, h5⟩ := h
  exact ⟨h1, h2, h3, va_K.moved (u := U) (U := U.calling g mk a) (Vm.Alike.refl U.vm) h4, z_Wd.same (U := U.calling g mk a) rfl h5⟩
theorem z_entry_args (b sc : Nat) : ∀ (As : List Value) (k : Nat), As.all z_real = true → ∀ (i : Nat) (v : Value), As[i]? = some v → (k + i, z_tv b sc v) ∈ lv_args k (As.map (z_tv b sc)) := by
  intro As
  induction As with
  | nil => intro k _ i v h; simp at h
  | cons a t ih =>
    intro k hr i v h
    simp only [List.all_cons, Bool.and_eq_true] at hr
    have hc : (z_tv b sc a).category = 1 := z_real_cat hr.1
    simp only [List.map_cons, lv_args, hc]
    cases i with
    | zero =>
      simp at h
      subst h
      exact List.mem_cons_self
    | succ i =>
      have := ih (k + 1) hr.2 i v (by simpa using h)
      rw [show k + (i + 1) = k + 1 + i by omega]
      exact List.mem_cons_of_mem _ (by simpa using this)
theorem z_entry_len (b sc : Nat) : ∀ (As : List Value), As.all z_real = true → (lg_sl (As.map (z_tv b sc))).length = As.length := by
  intro As
  induction As with
  | nil => intro _; rfl
  | cons a t ih =>
    intro hr
    simp only [List.all_cons, Bool.and_eq_true] at hr
    have hc : (z_tv b sc a).category = 1 := z_real_cat hr.1
    have := ih hr.2
    unfold lg_sl at this ⊢
    simp only [List.map_cons, List.flatMap_cons, hc, List.length_append, this]
    simp
    omega
theorem z_Sp_of {Y : z_MD} {d : Nat × Nat} {mc ms : Nat} {As L : List Value} {M : List va_E} {Q : Option Value → List va_E → Prop} (hn : plainName Y.1.cls = true) (hX : Y.2.2.2.2.1 = 0) (hr : As.all z_real = true) (hL : As ++ List.replicate (Y.2.2.1 - As.length) (.float 0) = L) (hlen : As.length ≤ Y.2.2.1)
    (h : z_Ev Y d mc ms 0 L [] M Q) : z_Sp Y d mc ms As M Q := by
  intro l b sc D cA
  refine Met.ofW (cc := Y.2.1) (maxL := Y.2.2.1) (ret := Y.2.2.2.1) hn rfl ?_
  intro p e s m args below meth c s₁ B hml hv
  obtain ⟨rfl, hP, hz, hK, hW⟩ := hv
  have hts := atoms_spec (ws := Cond.code Y.1 Y.2.1 Y.2.2.1 Y.2.2.2.1 :: z_ws) B.pre
  have hown : s.vm.findClass Y.1.cls = some m.cls := findClass_of_methodNamed B.named
  have hin : meth.name = Y.1.name := (name_of_methodNamed B.named B.method).1
  have hlocks := B.notSynchronized
  have hret := B.returns
  have hS : va_S (fun q => b ≤ q) s.heap s.heap [] := va_S.rf
  have hl := lv_entry (As.map (z_tv b sc)) (n := Y.2.2.1) (by rw [z_entry_len b sc As hr]; exact hlen)
  rw [lg_entry_eq]
  generalize (lg_sl (As.map (z_tv b sc)) ++ List.replicate (Y.2.2.1 - (lg_sl (As.map (z_tv b sc))).length) Slot.unset).toArray = ls at hl ⊢
  have hLL : z_L b sc ls Y.2.2.1 L := by
    refine ⟨hl.1, by rw [← hL]; simp; omega, hl.2.1, fun i v hi hv => ?_⟩
    rw [← hL] at hi
    by_cases hlt : i < As.length
    · rw [List.getElem?_append_left hlt] at hi
      have := hl.2.2 _ (z_entry_args b sc As 0 hr i v hi)
      simpa using this
    · rw [List.getElem?_append_right (by omega)] at hi
      have h2 := List.mem_of_getElem? hi
      rw [List.mem_replicate] at h2
      rw [h2.2] at hv
      cases hv
  refine h p l e _ s m _ below meth c b sc D cA s.heap [] 0 0 ls _ ⟨⟨B.exec, B.bytes, hml, hown, fun w hw => hts w (List.mem_cons_of_mem _ hw), hK, hW, hin, fun h => absurd hX h, by omega⟩, ⟨Nat.le_refl _, Nat.le_refl _, Nat.le_of_eq (Nat.zero_add _), Nat.le_of_eq (Nat.zero_add _)⟩, hP, hz, hS, hLL⟩ ?_
  intro r M' H locs cells slots pc ls' hQ hP' hz' hS' hc hs hre
  refine W.widen (k := mc) (n := ms) hc hs ?_
  have hq : ∀ (o : Option Value), o = r.map (z_tv b sc) → ∀ t : State, t.heap = H → s.WarmedH t.vm → z_Qc b sc D cA Q ((As.map (z_tv b sc)).toArray) s (.returned o) t := by
    intro o ho t ht _
    exact ⟨r, M', by rw [ho], hQ, by rw [ht]; exact hP', by rw [ht]; exact hz', hS'.F ht⟩
  cases r with
  | none =>
    obtain ⟨h1, h2⟩ := hre
    exact W.vret B.exec B.bytes (hret.trans h2) (hq none rfl) hS'.2.2 h1
  | some v =>
    rcases hre with ⟨x, ty, rfl, h1, h2, h3⟩ | ⟨C, hv, h1, h2⟩
    · exact W.zret B.exec B.bytes (hret.trans h2) h3 (hq _ rfl) hS'.2.2 h1
    · refine W.aret B.exec B.bytes (hret.trans h2) (Or.inl ⟨C, rfl⟩) ?_ (hq _ rfl) hS'.2.2 h1
      rcases hv with rfl | ⟨k, rfl⟩
      · exact Or.inl rfl
      · exact Or.inr ⟨_, rfl⟩
end
section
section
variable {Y : z_MD} {d : Nat × Nat} {kc ks pc : Nat} {L S : List Value} {M : List va_E} {Q : Option Value → List va_E → Prop}
theorem ev_iadd {q : Nat} {x y : Int32} (hd : decode Y.2.1 pc = .ok (.iadd, 1)) (hq : pc + 1 = q) (k : z_Ev Y d kc ks q L (.int (x + y) :: S) M Q) : z_Ev Y d kc ks pc L (.int y :: .int x :: S) M Q := by
  subst hq
  intro p l e R s m args below meth c b sc D cA H locs cells slots ls Qm h hr
  exact lv_iadd h.1.1 h.1.2.1 hd (k p l e R s m args below meth c b sc D cA H locs cells slots ls Qm h hr)
theorem ev_isub {q : Nat} {x y : Int32} (hd : decode Y.2.1 pc = .ok (.isub, 1)) (hq : pc + 1 = q) (k : z_Ev Y d kc ks q L (.int (x - y) :: S) M Q) : z_Ev Y d kc ks pc L (.int y :: .int x :: S) M Q := by
  subst hq
  intro p l e R s m args below meth c b sc D cA H locs cells slots ls Qm h hr
  exact lv_isub h.1.1 h.1.2.1 hd (k p l e R s m args below meth c b sc D cA H locs cells slots ls Qm h hr)
theorem ev_imul {q : Nat} {x y : Int32} (hd : decode Y.2.1 pc = .ok (.imul, 1)) (hq : pc + 1 = q) (k : z_Ev Y d kc ks q L (.int (x * y) :: S) M Q) : z_Ev Y d kc ks pc L (.int y :: .int x :: S) M Q := by
  subst hq
  intro p l e R s m args below meth c b sc D cA H locs cells slots ls Qm h hr
  exact lv_imul h.1.1 h.1.2.1 hd (k p l e R s m args below meth c b sc D cA H locs cells slots ls Qm h hr)
theorem ev_iand {q : Nat} {x y : Int32} (hd : decode Y.2.1 pc = .ok (.iand, 1)) (hq : pc + 1 = q) (k : z_Ev Y d kc ks q L (.int (x &&& y) :: S) M Q) : z_Ev Y d kc ks pc L (.int y :: .int x :: S) M Q := by
  subst hq
  intro p l e R s m args below meth c b sc D cA H locs cells slots ls Qm h hr
  exact lv_iand h.1.1 h.1.2.1 hd (k p l e R s m args below meth c b sc D cA H locs cells slots ls Qm h hr)
theorem ev_ior {q : Nat} {x y : Int32} (hd : decode Y.2.1 pc = .ok (.ior, 1)) (hq : pc + 1 = q) (k : z_Ev Y d kc ks q L (.int (x ||| y) :: S) M Q) : z_Ev Y d kc ks pc L (.int y :: .int x :: S) M Q := by
  subst hq
  intro p l e R s m args below meth c b sc D cA H locs cells slots ls Qm h hr
  exact lv_ior h.1.1 h.1.2.1 hd (k p l e R s m args below meth c b sc D cA H locs cells slots ls Qm h hr)
theorem ev_ixor {q : Nat} {x y : Int32} (hd : decode Y.2.1 pc = .ok (.ixor, 1)) (hq : pc + 1 = q) (k : z_Ev Y d kc ks q L (.int (x ^^^ y) :: S) M Q) : z_Ev Y d kc ks pc L (.int y :: .int x :: S) M Q := by
  subst hq
  intro p l e R s m args below meth c b sc D cA H locs cells slots ls Qm h hr
  exact lv_ixor h.1.1 h.1.2.1 hd (k p l e R s m args below meth c b sc D cA H locs cells slots ls Qm h hr)
theorem ev_ishl {q : Nat} {x y : Int32} (hd : decode Y.2.1 pc = .ok (.ishl, 1)) (hq : pc + 1 = q) (k : z_Ev Y d kc ks q L (.int (x <<< (y &&& 31)) :: S) M Q) : z_Ev Y d kc ks pc L (.int y :: .int x :: S) M Q := by
  subst hq
  intro p l e R s m args below meth c b sc D cA H locs cells slots ls Qm h hr
  exact lv_ishl h.1.1 h.1.2.1 hd (k p l e R s m args below meth c b sc D cA H locs cells slots ls Qm h hr)
theorem ev_ishr {q : Nat} {x y : Int32} (hd : decode Y.2.1 pc = .ok (.ishr, 1)) (hq : pc + 1 = q) (k : z_Ev Y d kc ks q L (.int (x >>> (y &&& 31)) :: S) M Q) : z_Ev Y d kc ks pc L (.int y :: .int x :: S) M Q := by
  subst hq
  intro p l e R s m args below meth c b sc D cA H locs cells slots ls Qm h hr
  exact lv_ishr h.1.1 h.1.2.1 hd (k p l e R s m args below meth c b sc D cA H locs cells slots ls Qm h hr)
theorem ev_idiv {q : Nat} {x y : Int32} (hd : decode Y.2.1 pc = .ok (.idiv, 1)) (hne : ¬ y = 0) (hq : pc + 1 = q) (k : z_Ev Y d kc ks q L (.int (x / y) :: S) M Q) : z_Ev Y d kc ks pc L (.int y :: .int x :: S) M Q := by
  subst hq
  intro p l e R s m args below meth c b sc D cA H locs cells slots ls Qm h hr
  exact lv_idiv h.1.1 h.1.2.1 hd hne (k p l e R s m args below meth c b sc D cA H locs cells slots ls Qm h hr)
theorem ev_irem {q : Nat} {x y : Int32} (hd : decode Y.2.1 pc = .ok (.irem, 1)) (hne : ¬ y = 0) (hq : pc + 1 = q) (k : z_Ev Y d kc ks q L (.int (x - x / y * y) :: S) M Q) : z_Ev Y d kc ks pc L (.int y :: .int x :: S) M Q := by
  subst hq
  intro p l e R s m args below meth c b sc D cA H locs cells slots ls Qm h hr
  exact lv_irem h.1.1 h.1.2.1 hd hne (k p l e R s m args below meth c b sc D cA H locs cells slots ls Qm h hr)
theorem ev_iushr {q : Nat} {x y v : Int32} (hd : decode Y.2.1 pc = .ok (.iushr, 1)) (hv : (x.toUInt32 >>> (y.toUInt32 &&& Int32.toUInt32 31)).toInt32 = v) (hq : pc + 1 = q) (k : z_Ev Y d kc ks q L (.int v :: S) M Q) : z_Ev Y d kc ks pc L (.int y :: .int x :: S) M Q := by
  subst hq
  intro p l e R s m args below meth c b sc D cA H locs cells slots ls Qm h hr
  exact lv_iushr h.1.1 h.1.2.1 hd hv (k p l e R s m args below meth c b sc D cA H locs cells slots ls Qm h hr)
theorem ev_ineg {q : Nat} {x : Int32} (hd : decode Y.2.1 pc = .ok (.ineg, 1)) (hq : pc + 1 = q) (k : z_Ev Y d kc ks q L (.int (-x) :: S) M Q) : z_Ev Y d kc ks pc L (.int x :: S) M Q := by
  subst hq
  intro p l e R s m args below meth c b sc D cA H locs cells slots ls Qm h hr
  exact lv_ineg h.1.1 h.1.2.1 hd (k p l e R s m args below meth c b sc D cA H locs cells slots ls Qm h hr)
theorem ev_iconst {q : Nat} {n : Int} {v : Int32} (hd : decode Y.2.1 pc = .ok (.iconst n, 1)) (hv : Int32.ofInt n = v) (hq : pc + 1 = q) (k : z_Ev Y d kc ks q L (.int v :: S) M Q) : z_Ev Y d kc ks pc L S M Q := by
  subst hq
  intro p l e R s m args below meth c b sc D cA H locs cells slots ls Qm h hr
  exact lv_iconst h.1.1 h.1.2.1 hd hv (k p l e R s m args below meth c b sc D cA H locs cells slots ls Qm h hr)
theorem ev_bipush {q : Nat} {n : Int} {v : Int32} (hd : decode Y.2.1 pc = .ok (.bipush n, 2)) (hv : (Int8.ofInt n).toInt32 = v) (hq : pc + 2 = q) (k : z_Ev Y d kc ks q L (.int v :: S) M Q) : z_Ev Y d kc ks pc L S M Q := by
  subst hq
  intro p l e R s m args below meth c b sc D cA H locs cells slots ls Qm h hr
  exact lv_bipush h.1.1 h.1.2.1 hd hv (k p l e R s m args below meth c b sc D cA H locs cells slots ls Qm h hr)
theorem ev_sipush {q : Nat} {n : Int} {v : Int32} (hd : decode Y.2.1 pc = .ok (.sipush n, 3)) (hv : (Int16.ofInt n).toInt32 = v) (hq : pc + 3 = q) (k : z_Ev Y d kc ks q L (.int v :: S) M Q) : z_Ev Y d kc ks pc L S M Q := by
  subst hq
  intro p l e R s m args below meth c b sc D cA H locs cells slots ls Qm h hr
  exact lv_sipush h.1.1 h.1.2.1 hd hv (k p l e R s m args below meth c b sc D cA H locs cells slots ls Qm h hr)
theorem ev_ldc {q : Nat} {idx : Nat} {v : Int32} (hd : decode Y.2.1 pc = .ok (.ldc idx, 2)) (hw : Cond.constant Y.1.cls idx v ∈ z_ws) (hq : pc + 2 = q) (k : z_Ev Y d kc ks q L (.int v :: S) M Q) : z_Ev Y d kc ks pc L S M Q := by
  subst hq
  intro p l e R s m args below meth c b sc D cA H locs cells slots ls Qm h hr
  exact lv_ldc h.1.1 h.1.2.1 h.1.2.2.2.1 (h.1.2.2.2.2.1 _ hw) hd (k p l e R s m args below meth c b sc D cA H locs cells slots ls Qm h hr)
theorem ev_dup {q : Nat} {v : Value} (hd : decode Y.2.1 pc = .ok (.dup, 1)) (hv : z_real v = true) (hq : pc + 1 = q) (k : z_Ev Y d kc ks q L (v :: v :: S) M Q) : z_Ev Y d kc ks pc L (v :: S) M Q := by
  subst hq
  intro p l e R s m args below meth c b sc D cA H locs cells slots ls Qm h hr
  exact lv_dup h.1.1 h.1.2.1 hd (z_real_cat hv) (k p l e R s m args below meth c b sc D cA H locs cells slots ls Qm h hr)
theorem ev_pop {q : Nat} {v : Value} (hd : decode Y.2.1 pc = .ok (.pop, 1)) (hv : z_real v = true) (hq : pc + 1 = q) (k : z_Ev Y d kc ks q L S M Q) : z_Ev Y d kc ks pc L (v :: S) M Q := by
  subst hq
  intro p l e R s m args below meth c b sc D cA H locs cells slots ls Qm h hr
  exact lv_pop h.1.1 h.1.2.1 hd (z_real_cat hv) (k p l e R s m args below meth c b sc D cA H locs cells slots ls Qm h hr)
theorem ev_dup_x1 {q : Nat} {v w : Value} (hd : decode Y.2.1 pc = .ok (.dup_x1, 1)) (hv : z_real v = true) (hw : z_real w = true) (hq : pc + 1 = q) (k : z_Ev Y d kc ks q L (v :: w :: v :: S) M Q) : z_Ev Y d kc ks pc L (v :: w :: S) M Q := by
  subst hq
  intro p l e R s m args below meth c b sc D cA H locs cells slots ls Qm h hr
  exact lv_dup_x1 h.1.1 h.1.2.1 hd (z_real_cat hv) (z_real_cat hw) (k p l e R s m args below meth c b sc D cA H locs cells slots ls Qm h hr)
theorem ev_dup_x2 {q : Nat} {v w u : Value} (hd : decode Y.2.1 pc = .ok (.dup_x2, 1)) (hv : z_real v = true) (hw : z_real w = true) (hu : z_real u = true) (hq : pc + 1 = q) (k : z_Ev Y d kc ks q L (v :: w :: u :: v :: S) M Q) : z_Ev Y d kc ks pc L (v :: w :: u :: S) M Q := by
  subst hq
  intro p l e R s m args below meth c b sc D cA H locs cells slots ls Qm h hr
  exact lv_dup_x2 h.1.1 h.1.2.1 hd (z_real_cat hv) (z_real_cat hw) (z_real_cat hu) (k p l e R s m args below meth c b sc D cA H locs cells slots ls Qm h hr)
theorem ev_goto {q t : Nat} {off : Int} (hd : decode Y.2.1 pc = .ok (.goto off, 3)) (ht : (pc : Int) + off = (t : Int)) (hq : t = q) (k : z_Ev Y d kc ks q L S M Q) : z_Ev Y d kc ks pc L S M Q := by
  subst hq
  intro p l e R s m args below meth c b sc D cA H locs cells slots ls Qm h hr
  exact lv_goto h.1.1 h.1.2.1 hd ht (k p l e R s m args below meth c b sc D cA H locs cells slots ls Qm h hr)
theorem ev_iload {q : Nat} {i : Nat} {x : Int32} (hd : decode Y.2.1 pc = .ok (.iload i, 2)) (hl : L[i]? = some (.int x)) (hq : pc + 2 = q) (k : z_Ev Y d kc ks q L (.int x :: S) M Q) : z_Ev Y d kc ks pc L S M Q := by
  subst hq
  intro p l e R s m args below meth c b sc D cA H locs cells slots ls Qm h hr
  exact lv_iload h.1.1 h.1.2.1 hd (h.2.2.2.2.2.2.2.2 _ _ hl rfl) (k p l e R s m args below meth c b sc D cA H locs cells slots ls Qm h hr)
theorem ev_iload_n {q : Nat} {i : Fin 4} (j : Nat) {x : Int32} (hd : decode Y.2.1 pc = .ok (.iload_n i, 1)) (hj : (i : Nat) = j) (hl : L[j]? = some (.int x)) (hq : pc + 1 = q) (k : z_Ev Y d kc ks q L (.int x :: S) M Q) : z_Ev Y d kc ks pc L S M Q := by
  subst hq
  intro p l e R s m args below meth c b sc D cA H locs cells slots ls Qm h hr
  exact lv_iload_n h.1.1 h.1.2.1 hd hj (h.2.2.2.2.2.2.2.2 _ _ hl rfl) (k p l e R s m args below meth c b sc D cA H locs cells slots ls Qm h hr)
theorem ev_aload {q : Nat} {i : Nat} {x : Nat} (hd : decode Y.2.1 pc = .ok (.aload i, 2)) (hl : L[i]? = some (.ref x)) (hq : pc + 2 = q) (k : z_Ev Y d kc ks q L (.ref x :: S) M Q) : z_Ev Y d kc ks pc L S M Q := by
  subst hq
  intro p l e R s m args below meth c b sc D cA H locs cells slots ls Qm h hr
  exact lv_aload h.1.1 h.1.2.1 hd (h.2.2.2.2.2.2.2.2 _ _ hl rfl) (k p l e R s m args below meth c b sc D cA H locs cells slots ls Qm h hr)
theorem ev_aload_n {q : Nat} {i : Fin 4} (j : Nat) {x : Nat} (hd : decode Y.2.1 pc = .ok (.aload_n i, 1)) (hj : (i : Nat) = j) (hl : L[j]? = some (.ref x)) (hq : pc + 1 = q) (k : z_Ev Y d kc ks q L (.ref x :: S) M Q) : z_Ev Y d kc ks pc L S M Q := by
  subst hq
  intro p l e R s m args below meth c b sc D cA H locs cells slots ls Qm h hr
  exact lv_aload_n h.1.1 h.1.2.1 hd hj (h.2.2.2.2.2.2.2.2 _ _ hl rfl) (k p l e R s m args below meth c b sc D cA H locs cells slots ls Qm h hr)
theorem ev_aloadN {q : Nat} {i : Nat} (hd : decode Y.2.1 pc = .ok (.aload i, 2)) (hl : L[i]? = some .null) (hq : pc + 2 = q) (k : z_Ev Y d kc ks q L (.null :: S) M Q) : z_Ev Y d kc ks pc L S M Q := by
  subst hq
  intro p l e R s m args below meth c b sc D cA H locs cells slots ls Qm h hr
  exact lv_aloadN h.1.1 h.1.2.1 hd (h.2.2.2.2.2.2.2.2 _ _ hl rfl) (k p l e R s m args below meth c b sc D cA H locs cells slots ls Qm h hr)
theorem ev_aload_nN {q : Nat} {i : Fin 4} (j : Nat) (hd : decode Y.2.1 pc = .ok (.aload_n i, 1)) (hj : (i : Nat) = j) (hl : L[j]? = some .null) (hq : pc + 1 = q) (k : z_Ev Y d kc ks q L (.null :: S) M Q) : z_Ev Y d kc ks pc L S M Q := by
  subst hq
  intro p l e R s m args below meth c b sc D cA H locs cells slots ls Qm h hr
  exact lv_aload_nN h.1.1 h.1.2.1 hd hj (h.2.2.2.2.2.2.2.2 _ _ hl rfl) (k p l e R s m args below meth c b sc D cA H locs cells slots ls Qm h hr)
theorem ev_aload_nS {q : Nat} {i : Fin 4} (j : Nat) {x : Nat} (hd : decode Y.2.1 pc = .ok (.aload_n i, 1)) (hj : (i : Nat) = j) (hl : L[j]? = some (.retAddr x)) (hq : pc + 1 = q) (k : z_Ev Y d kc ks q L (.retAddr x :: S) M Q) : z_Ev Y d kc ks pc L S M Q := by
  subst hq
  intro p l e R s m args below meth c b sc D cA H locs cells slots ls Qm h hr
  exact lv_aload_n h.1.1 h.1.2.1 hd hj (h.2.2.2.2.2.2.2.2 _ _ hl rfl) (k p l e R s m args below meth c b sc D cA H locs cells slots ls Qm h hr)
theorem ev_istore {q : Nat} {i : Nat} {x : Int32} {L' : List Value} (hd : decode Y.2.1 pc = .ok (.istore i, 2)) (hi : i < Y.2.2.1) (hL : L.set i (.int x) = L') (hq : pc + 2 = q) (k : z_Ev Y d kc ks q L' S M Q) : z_Ev Y d kc ks pc L (.int x :: S) M Q := by
  subst hq
  subst hL
  intro p l e R s m args below meth c b sc D cA H locs cells slots ls Qm h hr
  refine lv_istore h.1.1 h.1.2.1 hd h.2.2.2.2.2.has hi rfl fun ls' hl' => ?_
  exact k p l e R s m args below meth c b sc D cA H locs cells slots ls' Qm ⟨h.1, h.2.1, h.2.2.1, h.2.2.2.1, h.2.2.2.2.1, h.2.2.2.2.2.set rfl hl'⟩ hr
theorem ev_istore_n {q : Nat} {i : Fin 4} (j : Nat) {x : Int32} {L' : List Value} (hd : decode Y.2.1 pc = .ok (.istore_n i, 1)) (hj : (i : Nat) = j) (hi : j < Y.2.2.1) (hL : L.set j (.int x) = L') (hq : pc + 1 = q) (k : z_Ev Y d kc ks q L' S M Q) : z_Ev Y d kc ks pc L (.int x :: S) M Q := by
  subst hq
  subst hL
  intro p l e R s m args below meth c b sc D cA H locs cells slots ls Qm h hr
  refine lv_istore_n h.1.1 h.1.2.1 hd hj h.2.2.2.2.2.has hi rfl fun ls' hl' => ?_
  exact k p l e R s m args below meth c b sc D cA H locs cells slots ls' Qm ⟨h.1, h.2.1, h.2.2.1, h.2.2.2.1, h.2.2.2.2.1, h.2.2.2.2.2.set rfl hl'⟩ hr
theorem ev_astore {q : Nat} {i : Nat} {x : Nat} {L' : List Value} (hd : decode Y.2.1 pc = .ok (.astore i, 2)) (hi : i < Y.2.2.1) (hL : L.set i (.ref x) = L') (hq : pc + 2 = q) (k : z_Ev Y d kc ks q L' S M Q) : z_Ev Y d kc ks pc L (.ref x :: S) M Q := by
  subst hq
  subst hL
  intro p l e R s m args below meth c b sc D cA H locs cells slots ls Qm h hr
  refine lv_astore h.1.1 h.1.2.1 hd h.2.2.2.2.2.has hi rfl fun ls' hl' => ?_
  exact k p l e R s m args below meth c b sc D cA H locs cells slots ls' Qm ⟨h.1, h.2.1, h.2.2.1, h.2.2.2.1, h.2.2.2.2.1, h.2.2.2.2.2.set rfl hl'⟩ hr
theorem ev_astore_n {q : Nat} {i : Fin 4} (j : Nat) {x : Nat} {L' : List Value} (hd : decode Y.2.1 pc = .ok (.astore_n i, 1)) (hj : (i : Nat) = j) (hi : j < Y.2.2.1) (hL : L.set j (.ref x) = L') (hq : pc + 1 = q) (k : z_Ev Y d kc ks q L' S M Q) : z_Ev Y d kc ks pc L (.ref x :: S) M Q := by
  subst hq
  subst hL
  intro p l e R s m args below meth c b sc D cA H locs cells slots ls Qm h hr
  refine lv_astore_n h.1.1 h.1.2.1 hd hj h.2.2.2.2.2.has hi rfl fun ls' hl' => ?_
  exact k p l e R s m args below meth c b sc D cA H locs cells slots ls' Qm ⟨h.1, h.2.1, h.2.2.1, h.2.2.2.1, h.2.2.2.2.1, h.2.2.2.2.2.set rfl hl'⟩ hr
theorem ev_astoreN {q : Nat} {i : Nat}  {L' : List Value} (hd : decode Y.2.1 pc = .ok (.astore i, 2)) (hi : i < Y.2.2.1) (hL : L.set i (.null) = L') (hq : pc + 2 = q) (k : z_Ev Y d kc ks q L' S M Q) : z_Ev Y d kc ks pc L (.null :: S) M Q := by
  subst hq
  subst hL
  intro p l e R s m args below meth c b sc D cA H locs cells slots ls Qm h hr
  refine lv_astoreN h.1.1 h.1.2.1 hd h.2.2.2.2.2.has hi rfl fun ls' hl' => ?_
  exact k p l e R s m args below meth c b sc D cA H locs cells slots ls' Qm ⟨h.1, h.2.1, h.2.2.1, h.2.2.2.1, h.2.2.2.2.1, h.2.2.2.2.2.set rfl hl'⟩ hr
theorem ev_astore_nN {q : Nat} {i : Fin 4} (j : Nat)  {L' : List Value} (hd : decode Y.2.1 pc = .ok (.astore_n i, 1)) (hj : (i : Nat) = j) (hi : j < Y.2.2.1) (hL : L.set j (.null) = L') (hq : pc + 1 = q) (k : z_Ev Y d kc ks q L' S M Q) : z_Ev Y d kc ks pc L (.null :: S) M Q := by
  subst hq
  subst hL
  intro p l e R s m args below meth c b sc D cA H locs cells slots ls Qm h hr
  refine lv_astore_nN h.1.1 h.1.2.1 hd hj h.2.2.2.2.2.has hi rfl fun ls' hl' => ?_
  exact k p l e R s m args below meth c b sc D cA H locs cells slots ls' Qm ⟨h.1, h.2.1, h.2.2.1, h.2.2.2.1, h.2.2.2.2.1, h.2.2.2.2.2.set rfl hl'⟩ hr
theorem ev_iinc {q i : Nat} {n : Int} {x v : Int32} {L' : List Value} (hd : decode Y.2.1 pc = .ok (.iinc i n, 3)) (hl : L[i]? = some (.int x)) (hi : i < Y.2.2.1) (hv : x + Int32.ofInt n = v) (hL : L.set i (.int v) = L') (hq : pc + 3 = q) (k : z_Ev Y d kc ks q L' S M Q) : z_Ev Y d kc ks pc L S M Q := by
  subst hq
  subst hL
  intro p l e R s m args below meth c b sc D cA H locs cells slots ls Qm h hr
  have hm : (i, Value.int x) ∈ z_lv b sc Y.2.2.1 L := z_lv_mem.mpr ⟨i, .int x, hi, hl, rfl, rfl⟩
  obtain ⟨k0, hk0⟩ := List.getElem?_of_mem hm
  refine lv_iinc h.1.1 h.1.2.1 hd h.2.2.2.2.2.has hk0 hv hi rfl fun ls' hl' => ?_
  exact k p l e R s m args below meth c b sc D cA H locs cells slots ls' Qm ⟨h.1, h.2.1, h.2.2.1, h.2.2.2.1, h.2.2.2.2.1, h.2.2.2.2.2.set rfl hl'⟩ hr
theorem ev_if_eq {q t : Nat} {x : Int32} {off : Int} (hd : decode Y.2.1 pc = .ok (.ifCond .eq off, 3)) (ht : (pc : Int) + off = (t : Int)) (hq : pc + 3 = q) (kt : x = 0 → z_Ev Y d kc ks t L S M Q) (kf : ¬ x = 0 → z_Ev Y d kc ks q L S M Q) : z_Ev Y d kc ks pc L (.int x :: S) M Q := by
  subst hq
  intro p l e R s m args below meth c b sc D cA H locs cells slots ls Qm h hr
  exact lv_if_eq h.1.1 h.1.2.1 hd ht (fun z => kt z p l e R s m args below meth c b sc D cA H locs cells slots ls Qm h hr) (fun z => kf z p l e R s m args below meth c b sc D cA H locs cells slots ls Qm h hr)
theorem ev_icmp_eq {q t : Nat} {x y : Int32} {off : Int} (hd : decode Y.2.1 pc = .ok (.if_icmp .eq off, 3)) (ht : (pc : Int) + off = (t : Int)) (hq : pc + 3 = q) (kt : x = y → z_Ev Y d kc ks t L S M Q) (kf : ¬ x = y → z_Ev Y d kc ks q L S M Q) : z_Ev Y d kc ks pc L (.int y :: .int x :: S) M Q := by
  subst hq
  intro p l e R s m args below meth c b sc D cA H locs cells slots ls Qm h hr
  exact lv_icmp_eq h.1.1 h.1.2.1 hd ht (fun z => kt z p l e R s m args below meth c b sc D cA H locs cells slots ls Qm h hr) (fun z => kf z p l e R s m args below meth c b sc D cA H locs cells slots ls Qm h hr)
theorem ev_if_ne {q t : Nat} {x : Int32} {off : Int} (hd : decode Y.2.1 pc = .ok (.ifCond .ne off, 3)) (ht : (pc : Int) + off = (t : Int)) (hq : pc + 3 = q) (kt : ¬ x = 0 → z_Ev Y d kc ks t L S M Q) (kf : x = 0 → z_Ev Y d kc ks q L S M Q) : z_Ev Y d kc ks pc L (.int x :: S) M Q := by
  subst hq
  intro p l e R s m args below meth c b sc D cA H locs cells slots ls Qm h hr
  exact lv_if_ne h.1.1 h.1.2.1 hd ht (fun z => kt z p l e R s m args below meth c b sc D cA H locs cells slots ls Qm h hr) (fun z => kf z p l e R s m args below meth c b sc D cA H locs cells slots ls Qm h hr)
theorem ev_icmp_ne {q t : Nat} {x y : Int32} {off : Int} (hd : decode Y.2.1 pc = .ok (.if_icmp .ne off, 3)) (ht : (pc : Int) + off = (t : Int)) (hq : pc + 3 = q) (kt : ¬ x = y → z_Ev Y d kc ks t L S M Q) (kf : x = y → z_Ev Y d kc ks q L S M Q) : z_Ev Y d kc ks pc L (.int y :: .int x :: S) M Q := by
  subst hq
  intro p l e R s m args below meth c b sc D cA H locs cells slots ls Qm h hr
  exact lv_icmp_ne h.1.1 h.1.2.1 hd ht (fun z => kt z p l e R s m args below meth c b sc D cA H locs cells slots ls Qm h hr) (fun z => kf z p l e R s m args below meth c b sc D cA H locs cells slots ls Qm h hr)
theorem ev_if_lt {q t : Nat} {x : Int32} {off : Int} (hd : decode Y.2.1 pc = .ok (.ifCond .lt off, 3)) (ht : (pc : Int) + off = (t : Int)) (hq : pc + 3 = q) (kt : x < 0 → z_Ev Y d kc ks t L S M Q) (kf : ¬ x < 0 → z_Ev Y d kc ks q L S M Q) : z_Ev Y d kc ks pc L (.int x :: S) M Q := by
  subst hq
  intro p l e R s m args below meth c b sc D cA H locs cells slots ls Qm h hr
  exact lv_if_lt h.1.1 h.1.2.1 hd ht (fun z => kt z p l e R s m args below meth c b sc D cA H locs cells slots ls Qm h hr) (fun z => kf z p l e R s m args below meth c b sc D cA H locs cells slots ls Qm h hr)
theorem ev_icmp_lt {q t : Nat} {x y : Int32} {off : Int} (hd : decode Y.2.1 pc = .ok (.if_icmp .lt off, 3)) (ht : (pc : Int) + off = (t : Int)) (hq : pc + 3 = q) (kt : x < y → z_Ev Y d kc ks t L S M Q) (kf : ¬ x < y → z_Ev Y d kc ks q L S M Q) : z_Ev Y d kc ks pc L (.int y :: .int x :: S) M Q := by
  subst hq
  intro p l e R s m args below meth c b sc D cA H locs cells slots ls Qm h hr
  exact lv_icmp_lt h.1.1 h.1.2.1 hd ht (fun z => kt z p l e R s m args below meth c b sc D cA H locs cells slots ls Qm h hr) (fun z => kf z p l e R s m args below meth c b sc D cA H locs cells slots ls Qm h hr)
theorem ev_if_ge {q t : Nat} {x : Int32} {off : Int} (hd : decode Y.2.1 pc = .ok (.ifCond .ge off, 3)) (ht : (pc : Int) + off = (t : Int)) (hq : pc + 3 = q) (kt : 0 ≤ x → z_Ev Y d kc ks t L S M Q) (kf : ¬ 0 ≤ x → z_Ev Y d kc ks q L S M Q) : z_Ev Y d kc ks pc L (.int x :: S) M Q := by
  subst hq
  intro p l e R s m args below meth c b sc D cA H locs cells slots ls Qm h hr
  exact lv_if_ge h.1.1 h.1.2.1 hd ht (fun z => kt z p l e R s m args below meth c b sc D cA H locs cells slots ls Qm h hr) (fun z => kf z p l e R s m args below meth c b sc D cA H locs cells slots ls Qm h hr)
theorem ev_icmp_ge {q t : Nat} {x y : Int32} {off : Int} (hd : decode Y.2.1 pc = .ok (.if_icmp .ge off, 3)) (ht : (pc : Int) + off = (t : Int)) (hq : pc + 3 = q) (kt : y ≤ x → z_Ev Y d kc ks t L S M Q) (kf : ¬ y ≤ x → z_Ev Y d kc ks q L S M Q) : z_Ev Y d kc ks pc L (.int y :: .int x :: S) M Q := by
  subst hq
  intro p l e R s m args below meth c b sc D cA H locs cells slots ls Qm h hr
  exact lv_icmp_ge h.1.1 h.1.2.1 hd ht (fun z => kt z p l e R s m args below meth c b sc D cA H locs cells slots ls Qm h hr) (fun z => kf z p l e R s m args below meth c b sc D cA H locs cells slots ls Qm h hr)
theorem ev_if_gt {q t : Nat} {x : Int32} {off : Int} (hd : decode Y.2.1 pc = .ok (.ifCond .gt off, 3)) (ht : (pc : Int) + off = (t : Int)) (hq : pc + 3 = q) (kt : 0 < x → z_Ev Y d kc ks t L S M Q) (kf : ¬ 0 < x → z_Ev Y d kc ks q L S M Q) : z_Ev Y d kc ks pc L (.int x :: S) M Q := by
  subst hq
  intro p l e R s m args below meth c b sc D cA H locs cells slots ls Qm h hr
  exact lv_if_gt h.1.1 h.1.2.1 hd ht (fun z => kt z p l e R s m args below meth c b sc D cA H locs cells slots ls Qm h hr) (fun z => kf z p l e R s m args below meth c b sc D cA H locs cells slots ls Qm h hr)
theorem ev_icmp_gt {q t : Nat} {x y : Int32} {off : Int} (hd : decode Y.2.1 pc = .ok (.if_icmp .gt off, 3)) (ht : (pc : Int) + off = (t : Int)) (hq : pc + 3 = q) (kt : y < x → z_Ev Y d kc ks t L S M Q) (kf : ¬ y < x → z_Ev Y d kc ks q L S M Q) : z_Ev Y d kc ks pc L (.int y :: .int x :: S) M Q := by
  subst hq
  intro p l e R s m args below meth c b sc D cA H locs cells slots ls Qm h hr
  exact lv_icmp_gt h.1.1 h.1.2.1 hd ht (fun z => kt z p l e R s m args below meth c b sc D cA H locs cells slots ls Qm h hr) (fun z => kf z p l e R s m args below meth c b sc D cA H locs cells slots ls Qm h hr)
theorem ev_if_le {q t : Nat} {x : Int32} {off : Int} (hd : decode Y.2.1 pc = .ok (.ifCond .le off, 3)) (ht : (pc : Int) + off = (t : Int)) (hq : pc + 3 = q) (kt : x ≤ 0 → z_Ev Y d kc ks t L S M Q) (kf : ¬ x ≤ 0 → z_Ev Y d kc ks q L S M Q) : z_Ev Y d kc ks pc L (.int x :: S) M Q := by
  subst hq
  intro p l e R s m args below meth c b sc D cA H locs cells slots ls Qm h hr
  exact lv_if_le h.1.1 h.1.2.1 hd ht (fun z => kt z p l e R s m args below meth c b sc D cA H locs cells slots ls Qm h hr) (fun z => kf z p l e R s m args below meth c b sc D cA H locs cells slots ls Qm h hr)
theorem ev_icmp_le {q t : Nat} {x y : Int32} {off : Int} (hd : decode Y.2.1 pc = .ok (.if_icmp .le off, 3)) (ht : (pc : Int) + off = (t : Int)) (hq : pc + 3 = q) (kt : x ≤ y → z_Ev Y d kc ks t L S M Q) (kf : ¬ x ≤ y → z_Ev Y d kc ks q L S M Q) : z_Ev Y d kc ks pc L (.int y :: .int x :: S) M Q := by
  subst hq
  intro p l e R s m args below meth c b sc D cA H locs cells slots ls Qm h hr
  exact lv_icmp_le h.1.1 h.1.2.1 hd ht (fun z => kt z p l e R s m args below meth c b sc D cA H locs cells slots ls Qm h hr) (fun z => kf z p l e R s m args below meth c b sc D cA H locs cells slots ls Qm h hr)
theorem ev_ifnonnull {q t : Nat} {x : Nat} {off : Int} (hd : decode Y.2.1 pc = .ok (.ifnonnull off, 3)) (ht : (pc : Int) + off = (t : Int)) (hq : t = q) (k : z_Ev Y d kc ks q L S M Q) : z_Ev Y d kc ks pc L (.ref x :: S) M Q := by
  subst hq
  intro p l e R s m args below meth c b sc D cA H locs cells slots ls Qm h hr
  exact lv_ifnonnull h.1.1 h.1.2.1 hd ht (k p l e R s m args below meth c b sc D cA H locs cells slots ls Qm h hr)
theorem ev_ifnull {q : Nat} {x : Nat} {off : Int} (hd : decode Y.2.1 pc = .ok (.ifnull off, 3)) (hq : pc + 3 = q) (k : z_Ev Y d kc ks q L S M Q) : z_Ev Y d kc ks pc L (.ref x :: S) M Q := by
  subst hq
  intro p l e R s m args below meth c b sc D cA H locs cells slots ls Qm h hr
  exact lv_ifnull h.1.1 h.1.2.1 hd (k p l e R s m args below meth c b sc D cA H locs cells slots ls Qm h hr)
theorem ev_ifnullN {q t : Nat} {off : Int} (hd : decode Y.2.1 pc = .ok (.ifnull off, 3)) (ht : (pc : Int) + off = (t : Int)) (hq : t = q) (k : z_Ev Y d kc ks q L S M Q) : z_Ev Y d kc ks pc L (.null :: S) M Q := by
  subst hq
  intro p l e R s m args below meth c b sc D cA H locs cells slots ls Qm h hr
  exact lv_ifnullN h.1.1 h.1.2.1 hd ht (k p l e R s m args below meth c b sc D cA H locs cells slots ls Qm h hr)
theorem ev_ifnonnullN {q : Nat} {off : Int} (hd : decode Y.2.1 pc = .ok (.ifnonnull off, 3)) (hq : pc + 3 = q) (k : z_Ev Y d kc ks q L S M Q) : z_Ev Y d kc ks pc L (.null :: S) M Q := by
  subst hq
  intro p l e R s m args below meth c b sc D cA H locs cells slots ls Qm h hr
  exact lv_ifnonnullN h.1.1 h.1.2.1 hd (k p l e R s m args below meth c b sc D cA H locs cells slots ls Qm h hr)
theorem ev_tableOut {q t : Nat} {dflt lo hi : Int} {offs : Array Int} {len : Nat} {x : Int32} (hd : decode Y.2.1 pc = .ok (.tableswitch dflt lo hi offs, len)) (hx : x.toInt < lo ∨ hi < x.toInt) (ht : (pc : Int) + dflt = (t : Int)) (hq : t = q) (k : z_Ev Y d kc ks q L S M Q) : z_Ev Y d kc ks pc L (.int x :: S) M Q := by
  subst hq
  intro p l e R s m args below meth c b sc D cA H locs cells slots ls Qm h hr
  exact lv_tableOut h.1.1 h.1.2.1 hd hx ht (k p l e R s m args below meth c b sc D cA H locs cells slots ls Qm h hr)
theorem ev_tableIn {q t : Nat} {dflt lo hi : Int} {offs : Array Int} {len : Nat} {x : Int32} {off : Int} (hd : decode Y.2.1 pc = .ok (.tableswitch dflt lo hi offs, len)) (h1 : ¬ x.toInt < lo) (h2 : ¬ hi < x.toInt) (ho : offs[(x.toInt - lo).toNat]? = some off) (ht : (pc : Int) + off = (t : Int)) (hq : t = q) (k : z_Ev Y d kc ks q L S M Q) : z_Ev Y d kc ks pc L (.int x :: S) M Q := by
  subst hq
  intro p l e R s m args below meth c b sc D cA H locs cells slots ls Qm h hr
  exact lv_tableIn h.1.1 h.1.2.1 hd h1 h2 ho ht (k p l e R s m args below meth c b sc D cA H locs cells slots ls Qm h hr)
theorem ev_lookup {q t : Nat} {dflt : Int} {ps : Array (Int × Int)} {len : Nat} {x : Int32} {off : Int} (hd : decode Y.2.1 pc = .ok (.lookupswitch dflt ps, len)) (hp : (ps.toList.zip (ps.toList.drop 1)).all (fun (a, next) => a.1 < next.1) = true) (ho : Op.lookupswitch.offset ps.toList dflt x.toInt = off) (ht : (pc : Int) + off = (t : Int)) (hq : t = q) (k : z_Ev Y d kc ks q L S M Q) : z_Ev Y d kc ks pc L (.int x :: S) M Q := by
  subst hq
  intro p l e R s m args below meth c b sc D cA H locs cells slots ls Qm h hr
  exact lv_lookup h.1.1 h.1.2.1 hd hp ho ht (k p l e R s m args below meth c b sc D cA H locs cells slots ls Qm h hr)
end
end
section
-- cells
def z_F (own : String) (idx ci j : Nat) : Prop := ∃ (C : String) (T : u_T) (N : Nat), z_cl[ci]? = some (C, T, N) ∧ j < N ∧ (∀ w ∈ u_ws C T N, w ∈ z_ws) ∧ Cond.fieldLink own idx (T j).1 (T j).2.1 (T j).2.2.1 ∈ z_ws
def z_G (own : String) (idx ci j : Nat) (fin : Bool) (ty : FieldType) : Prop := ∃ (C : String) (T : u_T) (N : Nat) (ty0 : Nat → FieldType), z_cl[ci]? = some (C, T, N) ∧ j < N ∧ (∀ w ∈ u_ws C T N, w ∈ z_ws) ∧ Cond.fieldLink own idx (T j).1 (T j).2.1 (T j).2.2.1 ∈ z_ws ∧ (∀ k, k < N → parseFieldDescriptor (T k).2.2.1 = some (ty0 k)) ∧ (∀ a, a < N → ∀ b, b < N → a ≠ b → (T a).2.1 ≠ (T b).2.1) ∧ (T j).2.2.2 = fin ∧ parseFieldDescriptor (T j).2.2.1 = some ty ∧ (T j).1 = C
def z_N (own : String) (idx ci n : Nat) (fs : List Value) : Prop := ∃ (C : String) (T : u_T) (ty0 : Nat → FieldType), z_cl[ci]? = some (C, T, n) ∧ (∀ w ∈ u_ws C T n, w ∈ z_ws) ∧ (∀ k, k < n → parseFieldDescriptor (T k).2.2.1 = some (ty0 k)) ∧ Cond.classLink own idx C ∈ z_ws ∧ Cond.instantiable C n ∈ z_ws ∧ Cond.initialized C ∈ z_ws ∧ (∀ j, j < n → defaultValue (ty0 j) = vp_V fs j) ∧ ∀ b sc : Nat, fs.map (z_tv b sc) = fs
def z_Cl (Y' : z_MD) (n : Nat) : Prop := Cond.code Y'.1 Y'.2.1 Y'.2.2.1 Y'.2.2.2.1 ∈ z_ws ∧ Cond.initialized Y'.1.cls ∈ z_ws ∧ (Y'.1.cls ≠ "java/lang/invoke/MethodHandle" ∧ Y'.1.cls ≠ "java/lang/invoke/VarHandle") ∧ (parseMethodDescriptor Y'.1.desc).map (fun d => d.parameters.length) = some n
theorem z_sum {b sc : Nat} {S : List Value} (h : S.all z_real = true) : ((S.map (z_tv b sc)).map fun v => v.category).sum = S.length := by
  induction S with
  | nil => rfl
  | cons a t ih =>
    simp only [List.all_cons, Bool.and_eq_true] at h
    have hc : (z_tv b sc a).category = 1 := z_real_cat h.1
    simp only [List.map_cons, List.sum_cons, hc, ih h.2, List.length_cons]
    omega
theorem z_ret_map {b sc : Nat} (r : Option Value) (S : List Value) : (r.map (z_tv b sc)).toList ++ S.map (z_tv b sc) = (r.toList ++ S).map (z_tv b sc) := by
  cases r <;> simp
section
variable {p : Program} {l : Launch} {e : Env} {R : Room} {s : State} {m : MethodId} {args : Array Value} {below : List Frame} {meth : Method} {c : Code} {H H0 : Heap} {locs : List Loc} {cells slots : Nat} {Qm : State → Prop}
variable {pc : Nat} {ls : Array Slot} {rest : List Value} {D : va_G} {b sc mc ms : Nat} {cA : Nat → ClassId}
theorem z_cont {Q' : Option Value → List va_E → Prop} {st0 : List Value} {a : Array Value} (hr : va_Run p l e R s m args below meth c H locs cells slots mc ms (F0 m pc ls st0) rest (z_Qc b sc D cA Q' a) (fun q => b ≤ q)) (hS : va_S (fun q => b ≤ q) H0 H locs)
    (kk : ∀ (r : Option Value) (M : List va_E) (H1 : Heap) (locs1 : List Loc), Q' r M → va_P D z_cl (z_tw b sc cA M) H1 → H1.size = b + M.length → va_S (fun q => b ≤ q) H0 H1 locs1 → W p l e R s m args below meth c H1 locs1 (cells + mc) (slots + ms) Qm (F0 m (pc + 3) ls ((r.map (z_tv b sc)).toList ++ rest))) : W p l e R s m args below meth c H locs cells slots Qm (F0 m pc ls st0) := by
  intro T hT X
  obtain ⟨v, st₀, t, T', L, h0, X', hL, e1, e2, ⟨r, M, hv, hq, hP, hz, hz1, hk⟩, st⟩ := hr T hT X
  cases hv
  rw [h0] at hz1 hk
  obtain ⟨t2, a1, b1⟩ := kk r M T'.heap (locs ++ L) hq (by rw [e1]; exact hP) (by rw [e1]; exact hz)
    ⟨Nat.le_trans hS.1 (by rw [e1]; exact hz1), fun q h1 h2 => by rw [e1, hk q (Nat.lt_of_lt_of_le h1 hS.1) h2]; exact hS.2.1 q h1 h2, fun q hq => by
      rcases List.mem_append.mp hq with h | h
      · exact hS.2.2 q h
      · exact hL q h⟩ T' rfl X'
  exact ⟨t2, st t2 a1, b1⟩
theorem z_words {w : List Cond} (hts : ∀ w ∈ z_ws, w.before args s = true) (hw : ∀ x ∈ w, x ∈ z_ws) : ∀ x ∈ w, ∀ (a' : Array Value) (U : State), s.WarmedH U.vm → x.before a' U = true :=
  fun x hx a' U hW => word_at hW (z_good x (hw x hx)) (hts x (hw x hx))
theorem z_callB {Y' : z_MD} {n idx : Nat} {d : Nat × Nat} {own : String} (hY : z_Cl Y' n) (hts : ∀ w ∈ z_ws, w.before args s = true) (hR : d.1 + 1 ≤ R.frames ∧ 8 + (Y'.2.2.1 + 11) + d.2 ≤ R.locals) (hl : Cond.methodLink own idx Y'.1 ∈ z_ws) :
    CallB R s args own idx Y'.1 Y'.2.1 Y'.2.2.1 Y'.2.2.2.1 (Cond.code Y'.1 Y'.2.1 Y'.2.2.1 Y'.2.2.2.1 :: z_ws) { frames := d.1, cells := mc, slots := ms, locals := d.2 } mc ms n := by
  obtain ⟨h1, h2, h3, h4⟩ := hY
  refine ⟨rfl, rfl, hR.1, hR.2, z_words hts ?_, List.mem_cons_self, hts _ h1, hts _ h2, h3, fun sig hs => ?_, hts _ hl⟩
  · intro x hx
    rcases List.mem_cons.mp hx with rfl | hx
    · exact h1
    · exact hx
  · rw [hs] at h4
    exact (Option.some.inj h4).symm
theorem z_callN {Y' : z_MD} {n idx : Nat} {d : Nat × Nat} {own host : String} (hY : z_Cl Y' n) (hts : ∀ w ∈ z_ws, w.before args s = true) (hWd : z_Wd s) (hR : d.1 + 1 ≤ R.frames ∧ 8 + (Y'.2.2.1 + 11) + d.2 ≤ R.locals) (hl : (own, idx, Y'.1, host) ∈ z_nw) :
    va_CN R s args own idx Y'.1 host Y'.2.1 Y'.2.2.1 Y'.2.2.2.1 (Cond.code Y'.1 Y'.2.1 Y'.2.2.1 Y'.2.2.2.1 :: z_ws) { frames := d.1, cells := mc, slots := ms, locals := d.2 } mc ms n := by
  obtain ⟨h1, h2, h3, h4⟩ := hY
  refine ⟨⟨rfl, rfl, hR.1, hR.2, z_words hts ?_, List.mem_cons_self⟩, hts _ h1, hts _ h2, h3, fun sig hs => ?_, va_Nw.use rfl (hWd.1 _ hl)⟩
  · intro x hx
    rcases List.mem_cons.mp hx with rfl | hx
    · exact h1
    · exact hx
  · rw [hs] at h4
    exact (Option.some.inj h4).symm
end
section
variable {Y : z_MD} {d d' : Nat × Nat} {kc ks pc : Nat} {L S : List Value} {M : List va_E} {Q : Option Value → List va_E → Prop}
theorem ev_get {q k ci j idx : Nat} {fs : List Value} {v : Value} (hd : decode Y.2.1 pc = .ok (.getfield idx, 3)) (hF : z_F Y.1.cls idx ci j) (hM : M[k]? = some (.inr (ci, fs))) (hv : fs[j]? = some v) (hq : pc + 3 = q) (kk : z_Ev Y d kc ks q L (v :: S) M Q) : z_Ev Y d kc ks pc L (.ref k :: S) M Q := by
  subst hq
  intro p l e R s m args below meth c b sc D cA H locs cells slots ls Qm h hr
  obtain ⟨C, T, N, hc, hj, hin, hl⟩ := hF
  obtain ⟨⟨hx, hb, hml, hown, hts, hK, -⟩, -, hP, -⟩ := id h
  exact va_get hx hb hts hin hown hK hP k (z_tw_at hM) hc j hj (hts _ hl) (fun x hx => hx) (v := z_tv b sc v) (by rw [List.getElem?_map, hv]; rfl) hd (kk p l e R s m args below meth c b sc D cA H locs cells slots ls Qm h hr)
theorem ev_put {q k ci j idx : Nat} {fs fs' : List Value} {v : Value} {ty : FieldType} {M' : List va_E} (hd : decode Y.2.1 pc = .ok (.putfield idx, 3)) (hF : z_G Y.1.cls idx ci j false ty) (hM : M[k]? = some (.inr (ci, fs))) (hv : ∀ b sc : Nat, narrow ty (z_tv b sc v) = z_tv b sc v ∧ fits ty (z_tv b sc v) = true) (hj : j < fs.length) (hfs : fs.set j v = fs') (hM' : M.set k (.inr (ci, fs')) = M') (hq : pc + 3 = q) (kk : z_Ev Y d kc ks q L S M' Q) : z_Ev Y d kc ks pc L (v :: .ref k :: S) M Q := by
  subst hq
  subst hfs
  subst hM'
  intro p l e R s m args below meth c b sc D cA H locs cells slots ls Qm h hr
  obtain ⟨C, T, N, ty0, hc, hjN, hin, hl, hty, hnm, hfin, hdesc, -⟩ := hF
  obtain ⟨⟨hx, hb, hml, hown, hts, hK, -⟩, -, hP, hz, hS, -⟩ := id h
  refine z_put hx hb hts hin ty0 hty hnm hown hK hP (z_tw_D b sc cA M) hS k (z_tw_at hM) hc j hjN (hts _ hl) (fun x hx => hx) hfin hdesc (hv b sc).1 (hv b sc).2 (by simpa using hj) hd fun H1 locs1 z1 hP1 hS1 => ?_
  have hP2 : va_P D z_cl (z_tw b sc cA (M.set k (.inr (ci, fs.set j v)))) H1 := by
    rw [← z_tw_set]
    show va_P D z_cl ((z_tw b sc cA M).set k (b + k, .inr (ci, (fs.set j v).map (z_tv b sc)))) H1
    rw [List.map_set]
    exact hP1
  exact kk p l e R s m args below meth c b sc D cA H1 locs1 cells slots ls Qm ⟨h.1, h.2.1, hP2, by rw [z1, hz, List.length_set], hS1, h.2.2.2.2.2⟩ hr
theorem ev_putF {q k ci j idx : Nat} {fs fs' : List Value} {v : Value} {ty : FieldType} {M' : List va_E} (hd : decode Y.2.1 pc = .ok (.putfield idx, 3)) (hF : z_G Y.1.cls idx ci j true ty) (hi : Y.1.name = "<init>") (hcl : (z_cl[ci]?).map (fun r => r.1) = some Y.1.cls) (hM : M[k]? = some (.inr (ci, fs))) (hv : ∀ b sc : Nat, narrow ty (z_tv b sc v) = z_tv b sc v ∧ fits ty (z_tv b sc v) = true) (hj : j < fs.length) (hfs : fs.set j v = fs') (hM' : M.set k (.inr (ci, fs')) = M') (hq : pc + 3 = q) (kk : z_Ev Y d kc ks q L S M' Q) : z_Ev Y d kc ks pc L (v :: .ref k :: S) M Q := by
  subst hq
  subst hfs
  subst hM'
  intro p l e R s m args below meth c b sc D cA H locs cells slots ls Qm h hr
  obtain ⟨C, T, N, ty0, hc, hjN, hin, hl, hty, hnm, hfin, hdesc, hC⟩ := hF
  obtain ⟨⟨hx, hb, hml, hown, hts, hK, -, hname, -⟩, -, hP, hz, hS, -⟩ := id h
  have hCY : C = Y.1.cls := by rw [hc] at hcl; exact Option.some.inj hcl
  refine z_putF hx hb hts hin ty0 hty hnm hown hK hP (z_tw_D b sc cA M) hS k (z_tw_at hM) hc j hjN (hts _ hl) (fun x hx => hx) hfin (hname.trans hi) (hC.trans hCY) hdesc (hv b sc).1 (hv b sc).2 (by simpa using hj) hd fun H1 locs1 z1 hP1 hS1 => ?_
  have hP2 : va_P D z_cl (z_tw b sc cA (M.set k (.inr (ci, fs.set j v)))) H1 := by
    rw [← z_tw_set]
    show va_P D z_cl ((z_tw b sc cA M).set k (b + k, .inr (ci, (fs.set j v).map (z_tv b sc)))) H1
    rw [List.map_set]
    exact hP1
  exact kk p l e R s m args below meth c b sc D cA H1 locs1 cells slots ls Qm ⟨h.1, h.2.1, hP2, by rw [z1, hz, List.length_set], hS1, h.2.2.2.2.2⟩ hr
theorem ev_iald {q k n j : Nat} {f : Nat → Int32} {i : Int32} (hd : decode Y.2.1 pc = .ok (.iaload, 1)) (hM : M[k]? = some (.inl (0, n, .inl f))) (hi : vp_in i n) (hj : i.toNatClampNeg = j) (hq : pc + 1 = q) (kk : z_Ev Y d kc ks q L (.int (f j) :: S) M Q) : z_Ev Y d kc ks pc L (.int i :: .ref k :: S) M Q := by
  subst hq
  subst hj
  intro p l e R s m args below meth c b sc D cA H locs cells slots ls Qm h hr
  obtain ⟨⟨hx, hb, hml, hown, hts, hK, -⟩, -, hP, -⟩ := id h
  exact va_iald hx hb hK hP k 0 (z_tw_at hM) rfl hi hd (kk p l e R s m args below meth c b sc D cA H locs cells slots ls Qm h hr)
theorem ev_zald {q k n j : Nat} {f : Nat → Int32} {i : Int32} (hd : decode Y.2.1 pc = .ok (.baload, 1)) (hM : M[k]? = some (.inl (1, n, .inl f))) (hi : vp_in i n) (hj : i.toNatClampNeg = j) (hq : pc + 1 = q) (kk : z_Ev Y d kc ks q L (.int (f j) :: S) M Q) : z_Ev Y d kc ks pc L (.int i :: .ref k :: S) M Q := by
  subst hq
  subst hj
  intro p l e R s m args below meth c b sc D cA H locs cells slots ls Qm h hr
  obtain ⟨⟨hx, hb, hml, hown, hts, hK, -⟩, -, hP, -⟩ := id h
  exact va_zald hx hb hK hP k 1 (z_tw_at hM) rfl hi hd (kk p l e R s m args below meth c b sc D cA H locs cells slots ls Qm h hr)
theorem ev_aald {q k n j t x : Nat} {f : Nat → Option Nat} {i : Int32} (hd : decode Y.2.1 pc = .ok (.aaload, 1)) (hT : ∀ cA, ∃ C, (z_tys cA)[t]? = some (cA t, .object C)) (hM : M[k]? = some (.inl (t, n, .inr (.inr (.inr (.inr f)))))) (hi : vp_in i n) (hj : i.toNatClampNeg = j) (hf : f j = some x) (hq : pc + 1 = q) (kk : z_Ev Y d kc ks q L (.ref x :: S) M Q) : z_Ev Y d kc ks pc L (.int i :: .ref k :: S) M Q := by
  subst hq
  subst hj
  intro p l e R s m args below meth c b sc D cA H locs cells slots ls Qm h hr
  obtain ⟨⟨hx, hb, hml, hown, hts, hK, -⟩, -, hP, -⟩ := id h
  obtain ⟨C, hC⟩ := hT cA
  refine va_aldq hx hb hK hP k t (z_tw_at hM) hC hi hd ?_
  show W p l e R s m args below meth c H locs cells slots Qm (F0 m (pc + 1) ls (va_rf ((f i.toNatClampNeg).map (fun k => b + k)) :: S.map (z_tv b sc)))
  rw [hf]
  exact kk p l e R s m args below meth c b sc D cA H locs cells slots ls Qm h hr
theorem ev_iast {q k n j : Nat} {f : Nat → Int32} {i x : Int32} {M' : List va_E} (hd : decode Y.2.1 pc = .ok (.iastore, 1)) (hM : M[k]? = some (.inl (0, n, .inl f))) (hi : vp_in i n) (hj : i.toNatClampNeg = j) (hM' : M.set k (.inl (0, n, .inl (upd f j x))) = M') (hq : pc + 1 = q) (kk : z_Ev Y d kc ks q L S M' Q) : z_Ev Y d kc ks pc L (.int x :: .int i :: .ref k :: S) M Q := by
  subst hq
  subst hj
  subst hM'
  intro p l e R s m args below meth c b sc D cA H locs cells slots ls Qm h hr
  obtain ⟨⟨hx, hb, hml, hown, hts, hK, -⟩, -, hP, hz, hS, -⟩ := id h
  refine z_iast hx hb hK hP (z_tw_D b sc cA M) hS k 0 (z_tw_at hM) rfl hi hd fun H1 locs1 z1 hP1 hS1 => ?_
  have hP2 : va_P D z_cl (z_tw b sc cA (M.set k (.inl (0, n, .inl (upd f i.toNatClampNeg x))))) H1 := by
    rw [← z_tw_set]
    exact hP1
  exact kk p l e R s m args below meth c b sc D cA H1 locs1 cells slots ls Qm ⟨h.1, h.2.1, hP2, by rw [z1, hz, List.length_set], hS1, h.2.2.2.2.2⟩ hr
theorem ev_zast {q k n j : Nat} {f : Nat → Int32} {i x : Int32} {M' : List va_E} (hd : decode Y.2.1 pc = .ok (.bastore, 1)) (hM : M[k]? = some (.inl (1, n, .inl f))) (hx : narrow .boolean (.int x) = .int x) (hi : vp_in i n) (hj : i.toNatClampNeg = j) (hM' : M.set k (.inl (1, n, .inl (upd f j x))) = M') (hq : pc + 1 = q) (kk : z_Ev Y d kc ks q L S M' Q) : z_Ev Y d kc ks pc L (.int x :: .int i :: .ref k :: S) M Q := by
  subst hq
  subst hj
  subst hM'
  intro p l e R s m args below meth c b sc D cA H locs cells slots ls Qm h hr
  obtain ⟨⟨hx', hb, hml, hown, hts, hK, -⟩, -, hP, hz, hS, -⟩ := id h
  refine z_zast hx' hb hK hP (z_tw_D b sc cA M) hS k 1 (z_tw_at hM) rfl hx hi hd fun H1 locs1 z1 hP1 hS1 => ?_
  have hP2 : va_P D z_cl (z_tw b sc cA (M.set k (.inl (1, n, .inl (upd f i.toNatClampNeg x))))) H1 := by
    rw [← z_tw_set]
    exact hP1
  exact kk p l e R s m args below meth c b sc D cA H1 locs1 cells slots ls Qm ⟨h.1, h.2.1, hP2, by rw [z1, hz, List.length_set], hS1, h.2.2.2.2.2⟩ hr
theorem ev_aast {q k n j t v ci : Nat} {f : Nat → Option Nat} {i : Int32} {vs : List Value} {M' : List va_E} (hd : decode Y.2.1 pc = .ok (.aastore, 1)) (hT : ∀ cA, ∃ r, z_cl[ci]? = some r ∧ (z_tys cA)[t]? = some (cA t, .object r.1)) (hM : M[k]? = some (.inl (t, n, .inr (.inr (.inr (.inr f)))))) (hv : M[v]? = some (.inr (ci, vs))) (hi : vp_in i n) (hj : i.toNatClampNeg = j) (hM' : M.set k (.inl (t, n, .inr (.inr (.inr (.inr (va_up f j (some v))))))) = M') (hq : pc + 1 = q) (kk : z_Ev Y d kc ks q L S M' Q) : z_Ev Y d kc ks pc L (.ref v :: .int i :: .ref k :: S) M Q := by
  subst hq
  subst hj
  subst hM'
  intro p l e R s m args below meth c b sc D cA H locs cells slots ls Qm h hr
  obtain ⟨⟨hx, hb, hml, hown, hts, hK, -⟩, -, hP, hz, hS, -⟩ := id h
  obtain ⟨r, hr1, hr2⟩ := hT cA
  refine z_astq hx hb hK hP (z_tw_D b sc cA M) hS k t v ci (z_tw_at hM) hr2 (z_tw_at hv) hr1 hi hd fun H1 locs1 z1 hP1 hS1 => ?_
  have hfn : va_up (fun j => (f j).map (fun k => b + k)) i.toNatClampNeg (some (b + v)) = fun j => (va_up f i.toNatClampNeg (some v) j).map (fun k => b + k) := by
    funext j
    unfold va_up
    split <;> rfl
  have hP2 : va_P D z_cl (z_tw b sc cA (M.set k (.inl (t, n, .inr (.inr (.inr (.inr (va_up f i.toNatClampNeg (some v))))))))) H1 := by
    rw [← z_tw_set]
    show va_P D z_cl ((z_tw b sc cA M).set k (b + k, .inl (cA t, n, .inr (.inr (.inr (.inr (fun j => (va_up f i.toNatClampNeg (some v) j).map (fun k => b + k)))))))) H1
    rw [← hfn]
    exact hP1
  exact kk p l e R s m args below meth c b sc D cA H1 locs1 cells slots ls Qm ⟨h.1, h.2.1, hP2, by rw [z1, hz, List.length_set], hS1, h.2.2.2.2.2⟩ hr
theorem ev_new {q ci n idx : Nat} {fs : List Value} (hd : decode Y.2.1 pc = .ok (.new idx, 3)) (hN : z_N Y.1.cls idx ci n fs) (hq : pc + 3 = q) (kk : z_Ev Y d kc ks q L (.ref M.length :: S) (M ++ [.inr (ci, fs)]) Q) : z_Ev Y d (kc + 1) (ks + n) pc L S M Q := by
  subst hq
  intro p l e R s m args below meth c b sc D cA H locs cells slots ls Qm h hr
  obtain ⟨C, T, ty0, hc, hin, hty, hcl, hinst, hini, hfs, hst⟩ := hN
  obtain ⟨⟨hx, hb, hml, hown, hts, hK, -⟩, hR, hP, hz, hS, -⟩ := id h
  refine z_new hx hb hts hin ty0 hty hown (hts _ hcl) (hts _ hinst) (hts _ hini) hK hP hS hc hfs (by omega) (by omega) hd fun H1 z1 hP1 hS1 => ?_
  rw [hz] at z1 hP1 ⊢
  have hP2 : va_P D z_cl (z_tw b sc cA (M ++ [.inr (ci, fs)])) H1 := by
    rw [← z_tw_app]
    show va_P D z_cl (z_tw b sc cA M ++ [(b + M.length, .inr (ci, fs.map (z_tv b sc)))]) H1
    rw [hst]
    exact hP1
  exact kk p l e R s m args below meth c b sc D cA H1 locs (cells + 1) (slots + n) ls Qm ⟨h.1, ⟨hR.1, hR.2.1, by omega, by omega⟩, hP2, by rw [z1, List.length_append]; simp; omega, hS1, h.2.2.2.2.2⟩ hr
theorem ev_newi {q n : Nat} {i : Int32} (hd : decode Y.2.1 pc = .ok (.newarray .int, 2)) (hw : Cond.arrayClass .int ∈ z_ws) (hi : i = nI n) (hn : n ≤ 1000) (hq : pc + 2 = q) (kk : z_Ev Y d kc ks q L (.ref M.length :: S) (M ++ [.inl (0, n, .inl (fun _ => 0))]) Q) : z_Ev Y d (kc + 1) (ks + n) pc L (.int i :: S) M Q := by
  subst hq
  subst hi
  intro p l e R s m args below meth c b sc D cA H locs cells slots ls Qm h hr
  obtain ⟨⟨hx, hb, hml, hown, hts, hK, -⟩, hR, hP, hz, hS, -⟩ := id h
  have hcA : s.vm.findClass ("[" ++ FieldType.int.toString) = some (cA 0) := (hK.2 0 (cA 0, .int) rfl).2
  refine z_newa (atype := .int) (ty := .int) (a0 := (n, .inl (fun _ => 0))) hx hb (hts _ hw) rfl hP hS (fun _ => rfl) hcA (nI_pos (by omega)) (nI_clamp (by omega)) (by show n * 4 ≤ _; omega) (by omega) (by omega) hd fun H1 z1 hP1 hS1 => ?_
  rw [hz] at z1 hP1 ⊢
  have hP2 : va_P D z_cl (z_tw b sc cA (M ++ [.inl (0, n, .inl (fun _ => 0))])) H1 := by
    rw [← z_tw_app]
    exact hP1
  exact kk p l e R s m args below meth c b sc D cA H1 locs (cells + 1) (slots + n) ls Qm ⟨h.1, ⟨hR.1, hR.2.1, by omega, by omega⟩, hP2, by rw [z1, List.length_append]; simp; omega, hS1, h.2.2.2.2.2⟩ hr
theorem ev_newz {q n : Nat} {i : Int32} (hd : decode Y.2.1 pc = .ok (.newarray .boolean, 2)) (hw : Cond.arrayClass .boolean ∈ z_ws) (hi : i = nI n) (hn : n ≤ 1000) (hq : pc + 2 = q) (kk : z_Ev Y d kc ks q L (.ref M.length :: S) (M ++ [.inl (1, n, .inl (fun _ => 0))]) Q) : z_Ev Y d (kc + 1) (ks + n) pc L (.int i :: S) M Q := by
  subst hq
  subst hi
  intro p l e R s m args below meth c b sc D cA H locs cells slots ls Qm h hr
  obtain ⟨⟨hx, hb, hml, hown, hts, hK, -⟩, hR, hP, hz, hS, -⟩ := id h
  have hcA : s.vm.findClass ("[" ++ FieldType.boolean.toString) = some (cA 1) := (hK.2 1 (cA 1, .boolean) rfl).2
  refine z_newa (atype := .boolean) (ty := .boolean) (a0 := (n, .inl (fun _ => 0))) hx hb (hts _ hw) rfl hP hS (fun _ => rfl) hcA (nI_pos (by omega)) (nI_clamp (by omega)) (by show n * 1 ≤ _; omega) (by omega) (by omega) hd fun H1 z1 hP1 hS1 => ?_
  rw [hz] at z1 hP1 ⊢
  have hP2 : va_P D z_cl (z_tw b sc cA (M ++ [.inl (1, n, .inl (fun _ => 0))])) H1 := by
    rw [← z_tw_app]
    exact hP1
  exact kk p l e R s m args below meth c b sc D cA H1 locs (cells + 1) (slots + n) ls Qm ⟨h.1, ⟨hR.1, hR.2.1, by omega, by omega⟩, hP2, by rw [z1, List.length_append]; simp; omega, hS1, h.2.2.2.2.2⟩ hr
theorem ev_newq {q n t idx : Nat} {i : Int32} {C : String} (hd : decode Y.2.1 pc = .ok (.anewarray idx, 3)) (hw : Cond.classLink Y.1.cls idx C ∈ z_ws) (hC : C ∈ z_ao) (hT : ∀ cA, (z_tys cA)[t]? = some (cA t, .object C)) (hi : i = nI n) (hn : n ≤ 1000) (hq : pc + 3 = q) (kk : z_Ev Y d kc ks q L (.ref M.length :: S) (M ++ [.inl (t, n, .inr (.inr (.inr (.inr (fun _ => none)))))]) Q) : z_Ev Y d (kc + 1) (ks + n) pc L (.int i :: S) M Q := by
  subst hq
  subst hi
  intro p l e R s m args below meth c b sc D cA H locs cells slots ls Qm h hr
  obtain ⟨⟨hx, hb, hml, hown, hts, hK, hWd, -⟩, hR, hP, hz, hS, -⟩ := id h
  obtain ⟨kA, comp, -, -, -, hcA⟩ := (hK.2 t _ (hT cA)).2
  refine z_newq hx hb hown (hts _ hw) (hWd.2 C hC) hP hS hcA (nI_pos (by omega)) (nI_clamp (by omega)) (by omega) (by omega) (by omega) hd fun H1 z1 hP1 hS1 => ?_
  rw [hz] at z1 hP1 ⊢
  have hP2 : va_P D z_cl (z_tw b sc cA (M ++ [.inl (t, n, .inr (.inr (.inr (.inr (fun _ => none)))))])) H1 := by
    rw [← z_tw_app]
    exact hP1
  exact kk p l e R s m args below meth c b sc D cA H1 locs (cells + 1) (slots + n) ls Qm ⟨h.1, ⟨hR.1, hR.2.1, by omega, by omega⟩, hP2, by rw [z1, List.length_append]; simp; omega, hS1, h.2.2.2.2.2⟩ hr
theorem ev_obj {q k idx : Nat} (hd : decode Y.2.1 pc = .ok (.invokespecial idx, 3)) (hl : Cond.methodLink Y.1.cls idx Lib.objectInit ∈ z_ws) (h1 : Cond.instanceMethod Lib.objectInit ∈ z_ws) (h2 : Cond.code Lib.objectInit ⟨#[0xb1]⟩ 1 none ∈ z_ws) (hS8 : S.length ≤ 8) (hSr : S.all z_real = true) (hdd : 1 ≤ d.1 ∧ 20 ≤ d.2) (hq : pc + 3 = q) (kk : z_Ev Y d kc ks q L S M Q) : z_Ev Y d kc ks pc L (.ref k :: S) M Q := by
  subst hq
  intro p l e R s m args below meth c b sc D cA H locs cells slots ls Qm h hr
  obtain ⟨⟨hx, hb, hml, hown, hts, hK, -⟩, hR, hP, hz, hS, hL⟩ := id h
  refine W.objInit hx hb hown (hts _ hl) (hts _ h1) (hts _ h2) rfl (by rw [hml]; exact hL.1) rfl hd (by omega) ?_ (kk p l e R s m args below meth c b sc D cA H locs cells slots ls Qm h hr)
  rw [z_sum hSr]
  show 2 * 0 + _ + 12 ≤ _
  omega
theorem ev_sld {q k j : Nat} {i : Int32} (hd : decode Y.2.1 pc = .ok (.iaload, 1)) (h0 : Y.2.2.2.2.1 ≠ 0) (hi : vp_in i Y.2.2.2.2.1) (hj : i.toNatClampNeg = j) (hq : pc + 1 = q) (kk : z_Ev Y d kc ks q L (.int (Y.2.2.2.2.2 j) :: S) M Q) : z_Ev Y d kc ks pc L (.int i :: .retAddr k :: S) M Q := by
  subst hq
  subst hj
  intro p l e R s m args below meth c b sc D cA H locs cells slots ls Qm h hr
  obtain ⟨⟨hx, hb, hml, hown, hts, hK, -, -, hX, -⟩, hR, hP, hz, hS, hL⟩ := id h
  obtain ⟨x1, x2, x3⟩ := hX h0
  exact va_sld hx hb x1 x2 x3 hS hi hd (kk p l e R s m args below meth c b sc D cA H locs cells slots ls Qm h hr)
theorem ev_slen {q k : Nat} (hd : decode Y.2.1 pc = .ok (.arraylength, 1)) (h0 : Y.2.2.2.2.1 ≠ 0) (hq : pc + 1 = q) (kk : z_Ev Y d kc ks q L (.int (nI Y.2.2.2.2.1) :: S) M Q) : z_Ev Y d kc ks pc L (.retAddr k :: S) M Q := by
  subst hq
  intro p l e R s m args below meth c b sc D cA H locs cells slots ls Qm h hr
  obtain ⟨⟨hx, hb, hml, hown, hts, hK, -, -, hX, -⟩, hR, hP, hz, hS, hL⟩ := id h
  obtain ⟨x1, x2, x3⟩ := hX h0
  exact va_slen hx hb x1 x2 x3 hS hd (kk p l e R s m args below meth c b sc D cA H locs cells slots ls Qm h hr)
theorem ev_callS {q idx n mc ms : Nat} {Y' : z_MD} {As S0 : List Value} {Q' : Option Value → List va_E → Prop} (hd : decode Y.2.1 pc = .ok (.invokestatic idx, 3)) (hl : Cond.methodLink Y.1.cls idx Y'.1 ∈ z_ws) (hs : Cond.static Y'.1 ∈ z_ws) (hY : z_Cl Y' n) (hn : As.length = n) (hS8 : S.length ≤ 8) (hSr : S.all z_real = true) (hst : As.reverse ++ S = S0) (hq : pc + 3 = q) (hdd : d'.1 + 1 ≤ d.1 ∧ 8 + (Y'.2.2.1 + 11) + d'.2 ≤ d.2) (hM : z_Sp Y' d' mc ms As M Q') (kk : ∀ r M', Q' r M' → z_Ev Y d kc ks q L (r.toList ++ S) M' Q) : z_Ev Y d (mc + kc) (ms + ks) pc L S0 M Q := by
  subst hq
  subst hst
  intro p l e R s m args below meth c b sc D cA H locs cells slots ls Qm h hr
  obtain ⟨⟨hx, hb, hml, hown, hts, hK, hWd, -, hX, -⟩, hR, hP, hz, hS, hL⟩ := id h
  refine z_cont (va_runS (As := As.map (z_tv b sc)) (rest := S.map (z_tv b sc)) ⟨hx, hb, hml, hown, hts⟩ (hM l b sc D cA) ⟨z_callB hY hts ⟨Nat.le_trans hdd.1 hR.1, Nat.le_trans hdd.2 hR.2.1⟩ hl, hts _ hs⟩ ⟨z_blind b sc D cA As M, fun U hU hW => ⟨rfl, by rw [hU]; exact hP, by rw [hU]; exact hz, va_K.moved hW.alike hK, hWd.moved hW⟩⟩ rfl (by simpa using hn) hL.1 (by simp) (lv_room (by rw [z_sum hSr]; exact hS8)) hd ⟨by omega, by omega⟩) hS fun r M' H1 locs1 hQ hP1 hz1 hS1 => ?_
  rw [z_ret_map]
  exact kk r M' hQ p l e R s m args below meth c b sc D cA H1 locs1 (cells + mc) (slots + ms) ls Qm ⟨h.1, ⟨hR.1, hR.2.1, by omega, by omega⟩, hP1, hz1, hS1, hL⟩ hr
theorem ev_callSN {q idx n mc ms : Nat} {host : String} {Y' : z_MD} {As S0 : List Value} {Q' : Option Value → List va_E → Prop} (hd : decode Y.2.1 pc = .ok (.invokestatic idx, 3)) (hl : (Y.1.cls, idx, Y'.1, host) ∈ z_nw) (hs : Cond.static Y'.1 ∈ z_ws) (hY : z_Cl Y' n) (hn : As.length = n) (hS8 : S.length ≤ 8) (hSr : S.all z_real = true) (hst : As.reverse ++ S = S0) (hq : pc + 3 = q) (hdd : d'.1 + 1 ≤ d.1 ∧ 8 + (Y'.2.2.1 + 11) + d'.2 ≤ d.2) (hM : z_Sp Y' d' mc ms As M Q') (kk : ∀ r M', Q' r M' → z_Ev Y d kc ks q L (r.toList ++ S) M' Q) : z_Ev Y d (mc + kc) (ms + ks) pc L S0 M Q := by
  subst hq
  subst hst
  intro p l e R s m args below meth c b sc D cA H locs cells slots ls Qm h hr
  obtain ⟨⟨hx, hb, hml, hown, hts, hK, hWd, -, hX, -⟩, hR, hP, hz, hS, hL⟩ := id h
  refine z_cont (va_runSN (As := As.map (z_tv b sc)) (rest := S.map (z_tv b sc)) ⟨hx, hb, hml, hown, hts⟩ (hM l b sc D cA) ⟨z_callN hY hts hWd ⟨Nat.le_trans hdd.1 hR.1, Nat.le_trans hdd.2 hR.2.1⟩ hl, hts _ hs, trivial⟩ ⟨z_blind b sc D cA As M, fun U hU hW => ⟨rfl, by rw [hU]; exact hP, by rw [hU]; exact hz, va_K.moved hW.alike hK, hWd.moved hW⟩⟩ rfl (by simpa using hn) hL.1 (by simp) (lv_room (by rw [z_sum hSr]; exact hS8)) hd ⟨by omega, by omega⟩) hS fun r M' H1 locs1 hQ hP1 hz1 hS1 => ?_
  rw [z_ret_map]
  exact kk r M' hQ p l e R s m args below meth c b sc D cA H1 locs1 (cells + mc) (slots + ms) ls Qm ⟨h.1, ⟨hR.1, hR.2.1, by omega, by omega⟩, hP1, hz1, hS1, hL⟩ hr
theorem ev_callV {q idx n mc ms k ci : Nat} {fs : List Value} {Y' : z_MD} {As S0 : List Value} {Q' : Option Value → List va_E → Prop} (hd : decode Y.2.1 pc = .ok (.invokevirtual idx, 3)) (hl : Cond.methodLink Y.1.cls idx Y'.1 ∈ z_ws) (hs : Cond.instanceMethod Y'.1 ∈ z_ws) (hs2 : Cond.selects Y'.1.cls Y'.1 Y'.1 ∈ z_ws) (hY : z_Cl Y' n) (hO : M[k]? = some (.inr (ci, fs))) (hcl : (z_cl[ci]?).map (fun r => r.1) = some Y'.1.cls) (hn : As.length = n) (hS8 : S.length ≤ 8) (hSr : S.all z_real = true) (hst : As.reverse ++ .ref k :: S = S0) (hq : pc + 3 = q) (hdd : d'.1 + 1 ≤ d.1 ∧ 8 + (Y'.2.2.1 + 11) + d'.2 ≤ d.2) (hM : z_Sp Y' d' mc ms (.ref k :: As) M Q') (kk : ∀ r M', Q' r M' → z_Ev Y d kc ks q L (r.toList ++ S) M' Q) : z_Ev Y d (mc + kc) (ms + ks) pc L S0 M Q := by
  subst hq
  subst hst
  intro p l e R s m args below meth c b sc D cA H locs cells slots ls Qm h hr
  obtain ⟨⟨hx, hb, hml, hown, hts, hK, hWd, -, hX, -⟩, hR, hP, hz, hS, hL⟩ := id h
  obtain ⟨rc, hrc, hrn⟩ := Option.map_eq_some_iff.mp hcl
  obtain ⟨cellB, g1, g2, g3⟩ := va_recv hK hP hrc (z_tw_at hO)
  rw [hrn] at g3
  refine z_cont (va_runV (As := As.map (z_tv b sc)) (rest := S.map (z_tv b sc)) (b := b + k) ⟨hx, hb, hml, hown, hts⟩ (hM l b sc D cA) ⟨z_callB hY hts ⟨Nat.le_trans hdd.1 hR.1, Nat.le_trans hdd.2 hR.2.1⟩ hl, hts _ hs, hts _ hs2⟩ ⟨z_blind b sc D cA (.ref k :: As) M, ⟨cellB, g1, g2, g3⟩, fun U hU hW => ⟨rfl, by rw [hU]; exact hP, by rw [hU]; exact hz, va_K.moved hW.alike hK, hWd.moved hW⟩⟩ rfl (by simpa using hn) hL.1 (by simp [z_tv]) (lv_room (by rw [z_sum hSr]; exact hS8)) hd ⟨by omega, by omega⟩) hS fun r M' H1 locs1 hQ hP1 hz1 hS1 => ?_
  rw [z_ret_map]
  exact kk r M' hQ p l e R s m args below meth c b sc D cA H1 locs1 (cells + mc) (slots + ms) ls Qm ⟨h.1, ⟨hR.1, hR.2.1, by omega, by omega⟩, hP1, hz1, hS1, hL⟩ hr
theorem ev_callI {q idx n mc ms k : Nat} {Y' : z_MD} {As S0 : List Value} {Q' : Option Value → List va_E → Prop} (hd : decode Y.2.1 pc = .ok (.invokespecial idx, 3)) (hl : Cond.methodLink Y.1.cls idx Y'.1 ∈ z_ws) (hs : Cond.instanceMethod Y'.1 ∈ z_ws) (hs2 : Y'.1.name = "<init>") (hs3 : Y'.2.2.2.1 = none) (hY : z_Cl Y' n) (hn : As.length = n) (hS8 : S.length ≤ 8) (hSr : S.all z_real = true) (hst : As.reverse ++ .ref k :: S = S0) (hq : pc + 3 = q) (hdd : d'.1 + 1 ≤ d.1 ∧ 8 + (Y'.2.2.1 + 11) + d'.2 ≤ d.2) (hM : z_Sp Y' d' mc ms (.ref k :: As) M Q') (kk : ∀ r M', Q' r M' → z_Ev Y d kc ks q L (r.toList ++ S) M' Q) : z_Ev Y d (mc + kc) (ms + ks) pc L S0 M Q := by
  subst hq
  subst hst
  intro p l e R s m args below meth c b sc D cA H locs cells slots ls Qm h hr
  obtain ⟨⟨hx, hb, hml, hown, hts, hK, hWd, -, hX, -⟩, hR, hP, hz, hS, hL⟩ := id h
  have hcb := z_callB (R := R) (s := s) (args := args) (mc := mc) (ms := ms) hY hts ⟨Nat.le_trans hdd.1 hR.1, Nat.le_trans hdd.2 hR.2.1⟩ hl
  have hM1 := hM l b sc D cA
  rw [hs3] at hcb hM1
  refine z_cont (va_runI (As := As.map (z_tv b sc)) (rest := S.map (z_tv b sc)) (b := b + k) ⟨hx, hb, hml, hown, hts⟩ hM1 ⟨hcb, hs2, hts _ hs⟩ ⟨z_blind b sc D cA (.ref k :: As) M, fun U hU hW => ⟨rfl, by rw [hU]; exact hP, by rw [hU]; exact hz, va_K.moved hW.alike hK, hWd.moved hW⟩⟩ rfl (by simpa using hn) hL.1 (by simp [z_tv]) (lv_room (by rw [z_sum hSr]; exact hS8)) hd ⟨by omega, by omega⟩) hS fun r M' H1 locs1 hQ hP1 hz1 hS1 => ?_
  rw [z_ret_map]
  exact kk r M' hQ p l e R s m args below meth c b sc D cA H1 locs1 (cells + mc) (slots + ms) ls Qm ⟨h.1, ⟨hR.1, hR.2.1, by omega, by omega⟩, hP1, hz1, hS1, hL⟩ hr
theorem ev_ret (hd : decode Y.2.1 pc = .ok (.return_, 1)) (hret : Y.2.2.2.1 = none) (hQ : Q none M) : z_Ev Y d kc ks pc L [] M Q := by
  intro p l e R s m args below meth c b sc D cA H locs cells slots ls Qm h hr
  exact hr none M H locs cells slots pc ls hQ h.2.2.1 h.2.2.2.1 h.2.2.2.2.1 (by have := h.2.1; omega) (by have := h.2.1; omega) ⟨hd, hret⟩
theorem ev_iret {x : Int32} {ty : FieldType} (hd : decode Y.2.1 pc = .ok (.ireturn, 1)) (hret : Y.2.2.2.1 = some ty) (hn : narrow ty (.int x) = .int x) (hQ : Q (some (.int x)) M) : z_Ev Y d kc ks pc L [.int x] M Q := by
  intro p l e R s m args below meth c b sc D cA H locs cells slots ls Qm h hr
  exact hr (some (.int x)) M H locs cells slots pc ls hQ h.2.2.1 h.2.2.2.1 h.2.2.2.2.1 (by have := h.2.1; omega) (by have := h.2.1; omega) (Or.inl ⟨x, ty, rfl, hd, hret, hn⟩)
theorem ev_aret {x : Nat} {C : String} (hd : decode Y.2.1 pc = .ok (.areturn, 1)) (hret : Y.2.2.2.1 = some (.object C)) (hQ : Q (some (.ref x)) M) : z_Ev Y d kc ks pc L [.ref x] M Q := by
  intro p l e R s m args below meth c b sc D cA H locs cells slots ls Qm h hr
  exact hr (some (.ref x)) M H locs cells slots pc ls hQ h.2.2.1 h.2.2.2.1 h.2.2.2.2.1 (by have := h.2.1; omega) (by have := h.2.1; omega) (Or.inr ⟨C, Or.inr ⟨x, rfl⟩, hd, hret⟩)
theorem ev_aretN {C : String} (hd : decode Y.2.1 pc = .ok (.areturn, 1)) (hret : Y.2.2.2.1 = some (.object C)) (hQ : Q (some .null) M) : z_Ev Y d kc ks pc L [.null] M Q := by
  intro p l e R s m args below meth c b sc D cA H locs cells slots ls Qm h hr
  exact hr (some .null) M H locs cells slots pc ls hQ h.2.2.1 h.2.2.2.1 h.2.2.2.2.1 (by have := h.2.1; omega) (by have := h.2.1; omega) (Or.inr ⟨C, Or.inl rfl, hd, hret⟩)
theorem ev_mono {Q2 : Option Value → List va_E → Prop} (hk : ∀ r M', Q r M' → Q2 r M') (h : z_Ev Y d kc ks pc L S M Q) : z_Ev Y d kc ks pc L S M Q2 := by
  intro p l e R s m args below meth c b sc D cA H locs cells slots ls Qm hh hr
  exact h p l e R s m args below meth c b sc D cA H locs cells slots ls Qm hh (fun r M' H' locs' cells' slots' pc' ls' hQ => hr r M' H' locs' cells' slots' pc' ls' (hk r M' hQ))
end
end
section
def iI (z : Int) : Int32 := Int32.ofInt z
abbrev z_rg (z : Int) : Prop := -2147483648 ≤ z ∧ z < 2147483648
abbrev zA (t n : Nat) (g : Int → Int) : va_E := .inl (t, n, .inl (fun j => iI (g (j : Int))))
abbrev zP (t n : Nat) (f : Int → Option Nat) : va_E := .inl (t, n, .inr (.inr (.inr (.inr (fun j => f (j : Int))))))
abbrev zi (z : Int) : Value := .int (iI z)
def zup {α : Type} (g : Int → α) (z : Int) (v : α) : Int → α := fun j => if j = z then v else g j
theorem iI_add (a b : Int) : iI a + iI b = iI (a + b) := (Int32.ofInt_add a b).symm
theorem iI_sub (a b : Int) : iI a - iI b = iI (a - b) := (Int32.ofInt_sub a b).symm
theorem iI_mul (a b : Int) : iI a * iI b = iI (a * b) := (Int32.ofInt_mul a b).symm
theorem iI_neg (a : Int) : - iI a = iI (-a) := (Int32.ofInt_neg a).symm
theorem iI_toInt {z : Int} (h : z_rg z) : (iI z).toInt = z := Int32.toInt_ofInt_of_le (by have := h.1; omega) (by have := h.2; omega)
theorem iI_lt {a b : Int} (ha : z_rg a) (hb : z_rg b) : iI a < iI b ↔ a < b := by
  rw [Int32.lt_iff_toInt_lt, iI_toInt ha, iI_toInt hb]
theorem iI_le {a b : Int} (ha : z_rg a) (hb : z_rg b) : iI a ≤ iI b ↔ a ≤ b := by
  rw [Int32.le_iff_toInt_le, iI_toInt ha, iI_toInt hb]
theorem iI_eq {a b : Int} (ha : z_rg a) (hb : z_rg b) : iI a = iI b ↔ a = b := by
  rw [← Int32.toInt_inj, iI_toInt ha, iI_toInt hb]
theorem iI_0 : iI 0 = 0 := rfl
theorem z_rg_0 : z_rg 0 := ⟨by decide, by decide⟩
theorem iI_of (x : Int32) : x = iI x.toInt := (Int32.ofInt_toInt x).symm
theorem iI_rg (x : Int32) : z_rg x.toInt := ⟨by have := Int32.le_toInt x; omega, by have := Int32.toInt_lt x; omega⟩
theorem iI_clamp {z : Int} (h : z_rg z) : (iI z).toNatClampNeg = z.toNat := by
  rw [← Int32.toNat_toInt, iI_toInt h]
theorem iI_in {z : Int} {n : Nat} (h : 0 ≤ z ∧ z < n) (hn : n ≤ 1000) : vp_in (iI z) n := by
  rw [vp_in_iff, iI_toInt ⟨by omega, by omega⟩]
  exact h
theorem iI_nI (n : Nat) : nI n = iI (n : Int) := (Int32.ofInt_eq_ofNat).symm
theorem iI_div {a d : Int} (ha : 0 ≤ a ∧ a < 2147483648) (hd : 0 < d ∧ d < 2147483648) : iI a / iI d = iI (a / d) := by
  have hq : 0 ≤ a / d := Int.ediv_nonneg ha.1 (by omega)
  have hq2 : a / d ≤ a := Int.ediv_le_self d ha.1
  rw [← Int32.toInt_inj, Int32.toInt_div_of_ne_right, iI_toInt ⟨by omega, by omega⟩, iI_toInt ⟨by omega, by omega⟩, iI_toInt ⟨by omega, by omega⟩, Int.tdiv_eq_ediv_of_nonneg ha.1]
  intro h
  have := congrArg Int32.toInt h
  rw [iI_toInt ⟨by omega, by omega⟩] at this
  have h1 : (-1 : Int32).toInt = -1 := by decide
  omega
theorem iI_rem {a d : Int} (ha : 0 ≤ a ∧ a < 2147483648) (hd : 0 < d ∧ d < 2147483648) : iI a - iI a / iI d * iI d = iI (a % d) := by
  rw [iI_div ha hd, iI_mul, iI_sub, Int.emod_def, Int.mul_comm]
theorem zup_s {α : Type} {g : Int → α} {z : Int} {v : α} : zup g z v z = v := by simp [zup]
theorem zup_n {α : Type} {g : Int → α} {z j : Int} {v : α} (h : j ≠ z) : zup g z v j = g j := by simp [zup, h]
theorem iI_upd {g : Int → Int} {z v : Int} (hz : 0 ≤ z) : upd (fun j => iI (g (j : Int))) z.toNat (iI v) = fun j : Nat => iI (zup g z v (j : Int)) := by
  funext j
  unfold upd zup
  by_cases h : (j : Int) = z
  · have h2 : j = z.toNat := by omega
    rw [if_pos h2, if_pos h]
  · have h2 : ¬ j = z.toNat := by omega
    rw [if_neg h2, if_neg h]
theorem iI_updP {f : Int → Option Nat} {z : Int} {v : Option Nat} (hz : 0 ≤ z) : va_up (fun j : Nat => f (j : Int)) z.toNat v = fun j : Nat => zup f z v (j : Int) := by
  funext j
  unfold va_up zup
  by_cases h : (j : Int) = z
  · have h2 : j = z.toNat := by omega
    rw [if_pos h2, if_pos h]
  · have h2 : ¬ j = z.toNat := by omega
    rw [if_neg h2, if_neg h]
section
variable {Y : z_MD} {d : Nat × Nat} {kc ks pc : Nat} {L S : List Value} {M : List va_E} {Q : Option Value → List va_E → Prop}
theorem zr_iadd {q : Nat} {x y : Int} (hd : decode Y.2.1 pc = .ok (.iadd, 1)) (hq : pc + 1 = q) (k : z_Ev Y d kc ks q L (zi (x + y) :: S) M Q) : z_Ev Y d kc ks pc L (zi y :: zi x :: S) M Q := ev_iadd hd hq (by rw [iI_add]; exact k)
theorem zr_isub {q : Nat} {x y : Int} (hd : decode Y.2.1 pc = .ok (.isub, 1)) (hq : pc + 1 = q) (k : z_Ev Y d kc ks q L (zi (x - y) :: S) M Q) : z_Ev Y d kc ks pc L (zi y :: zi x :: S) M Q := ev_isub hd hq (by rw [iI_sub]; exact k)
theorem zr_imul {q : Nat} {x y : Int} (hd : decode Y.2.1 pc = .ok (.imul, 1)) (hq : pc + 1 = q) (k : z_Ev Y d kc ks q L (zi (x * y) :: S) M Q) : z_Ev Y d kc ks pc L (zi y :: zi x :: S) M Q := ev_imul hd hq (by rw [iI_mul]; exact k)
theorem zr_ineg {q : Nat} {x : Int} (hd : decode Y.2.1 pc = .ok (.ineg, 1)) (hq : pc + 1 = q) (k : z_Ev Y d kc ks q L (zi (-x) :: S) M Q) : z_Ev Y d kc ks pc L (zi x :: S) M Q := ev_ineg hd hq (by rw [iI_neg]; exact k)
theorem zr_idiv {q : Nat} {x y : Int} (hd : decode Y.2.1 pc = .ok (.idiv, 1)) (hx : 0 ≤ x ∧ x < 2147483648) (hy : 0 < y ∧ y < 2147483648) (hq : pc + 1 = q) (k : z_Ev Y d kc ks q L (zi (x / y) :: S) M Q) : z_Ev Y d kc ks pc L (zi y :: zi x :: S) M Q := by
  refine ev_idiv hd (fun h => ?_) hq (by rw [iI_div hx hy]; exact k)
  rw [← iI_0, iI_eq ⟨by omega, by omega⟩ ⟨by omega, by omega⟩] at h
  omega
theorem zr_irem {q : Nat} {x y : Int} (hd : decode Y.2.1 pc = .ok (.irem, 1)) (hx : 0 ≤ x ∧ x < 2147483648) (hy : 0 < y ∧ y < 2147483648) (hq : pc + 1 = q) (k : z_Ev Y d kc ks q L (zi (x % y) :: S) M Q) : z_Ev Y d kc ks pc L (zi y :: zi x :: S) M Q := by
  refine ev_irem hd (fun h => ?_) hq (by rw [iI_rem hx hy]; exact k)
  rw [← iI_0, iI_eq ⟨by omega, by omega⟩ ⟨by omega, by omega⟩] at h
  omega
theorem zr_iinc {q i : Nat} {n x : Int} {L' : List Value} (hd : decode Y.2.1 pc = .ok (.iinc i n, 3)) (hl : L[i]? = some (zi x)) (hi : i < Y.2.2.1) (hL : L.set i (zi (x + n)) = L') (hq : pc + 3 = q) (k : z_Ev Y d kc ks q L' S M Q) : z_Ev Y d kc ks pc L S M Q := ev_iinc hd hl hi (iI_add x n) hL hq k
theorem zr_if_eq {q t : Nat} {x off : Int} (hd : decode Y.2.1 pc = .ok (.ifCond .eq off, 3)) (ht : (pc : Int) + off = (t : Int)) (hq : pc + 3 = q) (hx : z_rg x) (kt : x = 0 → z_Ev Y d kc ks t L S M Q) (kf : x ≠ 0 → z_Ev Y d kc ks q L S M Q) : z_Ev Y d kc ks pc L (zi x :: S) M Q := ev_if_eq hd ht hq (fun h => kt ((iI_eq (a := x) (b := 0) hx z_rg_0).mp h)) (fun h => kf (fun z => h ((iI_eq (a := x) (b := 0) hx z_rg_0).mpr z)))
theorem zr_icmp_eq {q t : Nat} {x y off : Int} (hd : decode Y.2.1 pc = .ok (.if_icmp .eq off, 3)) (ht : (pc : Int) + off = (t : Int)) (hq : pc + 3 = q) (hx : z_rg x) (hy : z_rg y) (kt : x = y → z_Ev Y d kc ks t L S M Q) (kf : x ≠ y → z_Ev Y d kc ks q L S M Q) : z_Ev Y d kc ks pc L (zi y :: zi x :: S) M Q := ev_icmp_eq hd ht hq (fun h => kt ((iI_eq (a := x) (b := y) hx hy).mp h)) (fun h => kf (fun z => h ((iI_eq (a := x) (b := y) hx hy).mpr z)))
theorem zr_if_ne {q t : Nat} {x off : Int} (hd : decode Y.2.1 pc = .ok (.ifCond .ne off, 3)) (ht : (pc : Int) + off = (t : Int)) (hq : pc + 3 = q) (hx : z_rg x) (kt : x ≠ 0 → z_Ev Y d kc ks t L S M Q) (kf : x = 0 → z_Ev Y d kc ks q L S M Q) : z_Ev Y d kc ks pc L (zi x :: S) M Q := ev_if_ne hd ht hq (fun h => kt (fun z => h ((iI_eq (a := x) (b := 0) hx z_rg_0).mpr z))) (fun h => kf ((iI_eq (a := x) (b := 0) hx z_rg_0).mp h))
theorem zr_icmp_ne {q t : Nat} {x y off : Int} (hd : decode Y.2.1 pc = .ok (.if_icmp .ne off, 3)) (ht : (pc : Int) + off = (t : Int)) (hq : pc + 3 = q) (hx : z_rg x) (hy : z_rg y) (kt : x ≠ y → z_Ev Y d kc ks t L S M Q) (kf : x = y → z_Ev Y d kc ks q L S M Q) : z_Ev Y d kc ks pc L (zi y :: zi x :: S) M Q := ev_icmp_ne hd ht hq (fun h => kt (fun z => h ((iI_eq (a := x) (b := y) hx hy).mpr z))) (fun h => kf ((iI_eq (a := x) (b := y) hx hy).mp h))
theorem zr_if_lt {q t : Nat} {x off : Int} (hd : decode Y.2.1 pc = .ok (.ifCond .lt off, 3)) (ht : (pc : Int) + off = (t : Int)) (hq : pc + 3 = q) (hx : z_rg x) (kt : x < 0 → z_Ev Y d kc ks t L S M Q) (kf : 0 ≤ x → z_Ev Y d kc ks q L S M Q) : z_Ev Y d kc ks pc L (zi x :: S) M Q := ev_if_lt hd ht hq (fun h => kt ((iI_lt (a := x) (b := 0) hx z_rg_0).mp h)) (fun h => kf (Int.not_lt.mp (fun w => h ((iI_lt (a := x) (b := 0) hx z_rg_0).mpr w))))
theorem zr_icmp_lt {q t : Nat} {x y off : Int} (hd : decode Y.2.1 pc = .ok (.if_icmp .lt off, 3)) (ht : (pc : Int) + off = (t : Int)) (hq : pc + 3 = q) (hx : z_rg x) (hy : z_rg y) (kt : x < y → z_Ev Y d kc ks t L S M Q) (kf : y ≤ x → z_Ev Y d kc ks q L S M Q) : z_Ev Y d kc ks pc L (zi y :: zi x :: S) M Q := ev_icmp_lt hd ht hq (fun h => kt ((iI_lt (a := x) (b := y) hx hy).mp h)) (fun h => kf (Int.not_lt.mp (fun w => h ((iI_lt (a := x) (b := y) hx hy).mpr w))))
theorem zr_if_ge {q t : Nat} {x off : Int} (hd : decode Y.2.1 pc = .ok (.ifCond .ge off, 3)) (ht : (pc : Int) + off = (t : Int)) (hq : pc + 3 = q) (hx : z_rg x) (kt : 0 ≤ x → z_Ev Y d kc ks t L S M Q) (kf : x < 0 → z_Ev Y d kc ks q L S M Q) : z_Ev Y d kc ks pc L (zi x :: S) M Q := ev_if_ge hd ht hq (fun h => kt ((iI_le (a := 0) (b := x) z_rg_0 hx).mp h)) (fun h => kf (Int.not_le.mp (fun w => h ((iI_le (a := 0) (b := x) z_rg_0 hx).mpr w))))
theorem zr_icmp_ge {q t : Nat} {x y off : Int} (hd : decode Y.2.1 pc = .ok (.if_icmp .ge off, 3)) (ht : (pc : Int) + off = (t : Int)) (hq : pc + 3 = q) (hx : z_rg x) (hy : z_rg y) (kt : y ≤ x → z_Ev Y d kc ks t L S M Q) (kf : x < y → z_Ev Y d kc ks q L S M Q) : z_Ev Y d kc ks pc L (zi y :: zi x :: S) M Q := ev_icmp_ge hd ht hq (fun h => kt ((iI_le (a := y) (b := x) hy hx).mp h)) (fun h => kf (Int.not_le.mp (fun w => h ((iI_le (a := y) (b := x) hy hx).mpr w))))
theorem zr_if_gt {q t : Nat} {x off : Int} (hd : decode Y.2.1 pc = .ok (.ifCond .gt off, 3)) (ht : (pc : Int) + off = (t : Int)) (hq : pc + 3 = q) (hx : z_rg x) (kt : 0 < x → z_Ev Y d kc ks t L S M Q) (kf : x ≤ 0 → z_Ev Y d kc ks q L S M Q) : z_Ev Y d kc ks pc L (zi x :: S) M Q := ev_if_gt hd ht hq (fun h => kt ((iI_lt (a := 0) (b := x) z_rg_0 hx).mp h)) (fun h => kf (Int.not_lt.mp (fun w => h ((iI_lt (a := 0) (b := x) z_rg_0 hx).mpr w))))
theorem zr_icmp_gt {q t : Nat} {x y off : Int} (hd : decode Y.2.1 pc = .ok (.if_icmp .gt off, 3)) (ht : (pc : Int) + off = (t : Int)) (hq : pc + 3 = q) (hx : z_rg x) (hy : z_rg y) (kt : y < x → z_Ev Y d kc ks t L S M Q) (kf : x ≤ y → z_Ev Y d kc ks q L S M Q) : z_Ev Y d kc ks pc L (zi y :: zi x :: S) M Q := ev_icmp_gt hd ht hq (fun h => kt ((iI_lt (a := y) (b := x) hy hx).mp h)) (fun h => kf (Int.not_lt.mp (fun w => h ((iI_lt (a := y) (b := x) hy hx).mpr w))))
theorem zr_if_le {q t : Nat} {x off : Int} (hd : decode Y.2.1 pc = .ok (.ifCond .le off, 3)) (ht : (pc : Int) + off = (t : Int)) (hq : pc + 3 = q) (hx : z_rg x) (kt : x ≤ 0 → z_Ev Y d kc ks t L S M Q) (kf : 0 < x → z_Ev Y d kc ks q L S M Q) : z_Ev Y d kc ks pc L (zi x :: S) M Q := ev_if_le hd ht hq (fun h => kt ((iI_le (a := x) (b := 0) hx z_rg_0).mp h)) (fun h => kf (Int.not_le.mp (fun w => h ((iI_le (a := x) (b := 0) hx z_rg_0).mpr w))))
theorem zr_icmp_le {q t : Nat} {x y off : Int} (hd : decode Y.2.1 pc = .ok (.if_icmp .le off, 3)) (ht : (pc : Int) + off = (t : Int)) (hq : pc + 3 = q) (hx : z_rg x) (hy : z_rg y) (kt : x ≤ y → z_Ev Y d kc ks t L S M Q) (kf : y < x → z_Ev Y d kc ks q L S M Q) : z_Ev Y d kc ks pc L (zi y :: zi x :: S) M Q := ev_icmp_le hd ht hq (fun h => kt ((iI_le (a := x) (b := y) hx hy).mp h)) (fun h => kf (Int.not_le.mp (fun w => h ((iI_le (a := x) (b := y) hx hy).mpr w))))
theorem zr_iald {q k n : Nat} {g : Int → Int} {z : Int} (hd : decode Y.2.1 pc = .ok (.iaload, 1)) (hM : M[k]? = some (zA 0 n g)) (hn : n ≤ 1000) (hz : 0 ≤ z ∧ z < n) (hq : pc + 1 = q) (kk : z_Ev Y d kc ks q L (zi (g z) :: S) M Q) : z_Ev Y d kc ks pc L (zi z :: .ref k :: S) M Q := by
  refine ev_iald hd hM (iI_in hz hn) (iI_clamp ⟨by omega, by omega⟩) hq ?_
  rw [Int.toNat_of_nonneg hz.1]
  exact kk
theorem zr_zald {q k n : Nat} {g : Int → Int} {z : Int} (hd : decode Y.2.1 pc = .ok (.baload, 1)) (hM : M[k]? = some (zA 1 n g)) (hn : n ≤ 1000) (hz : 0 ≤ z ∧ z < n) (hq : pc + 1 = q) (kk : z_Ev Y d kc ks q L (zi (g z) :: S) M Q) : z_Ev Y d kc ks pc L (zi z :: .ref k :: S) M Q := by
  refine ev_zald hd hM (iI_in hz hn) (iI_clamp ⟨by omega, by omega⟩) hq ?_
  rw [Int.toNat_of_nonneg hz.1]
  exact kk
theorem zr_aald {q k n t x : Nat} {f : Int → Option Nat} {z : Int} (hd : decode Y.2.1 pc = .ok (.aaload, 1)) (hT : ∀ cA, ∃ C, (z_tys cA)[t]? = some (cA t, .object C)) (hM : M[k]? = some (zP t n f)) (hn : n ≤ 1000) (hz : 0 ≤ z ∧ z < n) (hf : f z = some x) (hq : pc + 1 = q) (kk : z_Ev Y d kc ks q L (.ref x :: S) M Q) : z_Ev Y d kc ks pc L (zi z :: .ref k :: S) M Q := by
  refine ev_aald hd hT hM (iI_in hz hn) (iI_clamp ⟨by omega, by omega⟩) ?_ hq kk
  rw [Int.toNat_of_nonneg hz.1]
  exact hf
theorem zr_iast {q k n : Nat} {g : Int → Int} {z x : Int} {M' : List va_E} (hd : decode Y.2.1 pc = .ok (.iastore, 1)) (hM : M[k]? = some (zA 0 n g)) (hn : n ≤ 1000) (hz : 0 ≤ z ∧ z < n) (hM' : M.set k (zA 0 n (zup g z x)) = M') (hq : pc + 1 = q) (kk : z_Ev Y d kc ks q L S M' Q) : z_Ev Y d kc ks pc L (zi x :: zi z :: .ref k :: S) M Q := by
  subst hM'
  exact ev_iast hd hM (iI_in hz hn) (iI_clamp ⟨by omega, by omega⟩) (by rw [iI_upd hz.1]) hq kk
theorem zr_zast {q k n : Nat} {g : Int → Int} {z x : Int} {M' : List va_E} (hd : decode Y.2.1 pc = .ok (.bastore, 1)) (hM : M[k]? = some (zA 1 n g)) (hn : n ≤ 1000) (hx : x = 0 ∨ x = 1) (hz : 0 ≤ z ∧ z < n) (hM' : M.set k (zA 1 n (zup g z x)) = M') (hq : pc + 1 = q) (kk : z_Ev Y d kc ks q L S M' Q) : z_Ev Y d kc ks pc L (zi x :: zi z :: .ref k :: S) M Q := by
  subst hM'
  exact ev_zast hd hM (by rcases hx with rfl | rfl <;> decide) (iI_in hz hn) (iI_clamp ⟨by omega, by omega⟩) (by rw [iI_upd hz.1]) hq kk
theorem zr_aast {q k n t v ci : Nat} {f : Int → Option Nat} {z : Int} {vs : List Value} {M' : List va_E} (hd : decode Y.2.1 pc = .ok (.aastore, 1)) (hT : ∀ cA, ∃ r, z_cl[ci]? = some r ∧ (z_tys cA)[t]? = some (cA t, .object r.1)) (hM : M[k]? = some (zP t n f)) (hv : M[v]? = some (.inr (ci, vs))) (hn : n ≤ 1000) (hz : 0 ≤ z ∧ z < n) (hM' : M.set k (zP t n (zup f z (some v))) = M') (hq : pc + 1 = q) (kk : z_Ev Y d kc ks q L S M' Q) : z_Ev Y d kc ks pc L (.ref v :: zi z :: .ref k :: S) M Q := by
  subst hM'
  exact ev_aast hd hT hM hv (iI_in hz hn) (iI_clamp ⟨by omega, by omega⟩) (by rw [iI_updP hz.1]) hq kk
theorem zr_newi {q n : Nat} (hd : decode Y.2.1 pc = .ok (.newarray .int, 2)) (hw : Cond.arrayClass .int ∈ z_ws) (hn : n ≤ 1000) (hq : pc + 2 = q) (kk : z_Ev Y d kc ks q L (.ref M.length :: S) (M ++ [zA 0 n (fun _ => 0)]) Q) : z_Ev Y d (kc + 1) (ks + n) pc L (zi (n : Int) :: S) M Q := ev_newi hd hw (iI_nI n).symm hn hq kk
theorem zr_newz {q n : Nat} (hd : decode Y.2.1 pc = .ok (.newarray .boolean, 2)) (hw : Cond.arrayClass .boolean ∈ z_ws) (hn : n ≤ 1000) (hq : pc + 2 = q) (kk : z_Ev Y d kc ks q L (.ref M.length :: S) (M ++ [zA 1 n (fun _ => 0)]) Q) : z_Ev Y d (kc + 1) (ks + n) pc L (zi (n : Int) :: S) M Q := ev_newz hd hw (iI_nI n).symm hn hq kk
theorem zr_newq {q n t idx : Nat} {C : String} (hd : decode Y.2.1 pc = .ok (.anewarray idx, 3)) (hw : Cond.classLink Y.1.cls idx C ∈ z_ws) (hC : C ∈ z_ao) (hT : ∀ cA, (z_tys cA)[t]? = some (cA t, .object C)) (hn : n ≤ 1000) (hq : pc + 3 = q) (kk : z_Ev Y d kc ks q L (.ref M.length :: S) (M ++ [zP t n (fun _ => none)]) Q) : z_Ev Y d (kc + 1) (ks + n) pc L (zi (n : Int) :: S) M Q := ev_newq hd hw hC hT (iI_nI n).symm hn hq kk
theorem zr_puti {q k ci j idx : Nat} {fs fs' : List Value} {v : Int} {M' : List va_E} (hd : decode Y.2.1 pc = .ok (.putfield idx, 3)) (hF : z_G Y.1.cls idx ci j false .int) (hM : M[k]? = some (.inr (ci, fs))) (hj : j < fs.length) (hfs : fs.set j (zi v) = fs') (hM' : M.set k (.inr (ci, fs')) = M') (hq : pc + 3 = q) (kk : z_Ev Y d kc ks q L S M' Q) : z_Ev Y d kc ks pc L (zi v :: .ref k :: S) M Q := ev_put hd hF hM (fun _ _ => ⟨rfl, rfl⟩) hj hfs hM' hq kk
theorem zr_iret {x : Int} (hd : decode Y.2.1 pc = .ok (.ireturn, 1)) (hret : Y.2.2.2.1 = some .int) (hQ : Q (some (zi x)) M) : z_Ev Y d kc ks pc L [zi x] M Q := ev_iret hd hret rfl hQ
theorem zr_zret {x : Int} (hd : decode Y.2.1 pc = .ok (.ireturn, 1)) (hret : Y.2.2.2.1 = some .boolean) (hx : x = 0 ∨ x = 1) (hQ : Q (some (zi x)) M) : z_Ev Y d kc ks pc L [zi x] M Q := ev_iret hd hret (by rcases hx with rfl | rfl <;> decide) hQ
end
-- calls with exact results
def z_LV (own : String) (idx : Nat) (Y' : z_MD) (n : Nat) : Prop := Cond.methodLink own idx Y'.1 ∈ z_ws ∧ Cond.instanceMethod Y'.1 ∈ z_ws ∧ Cond.selects Y'.1.cls Y'.1 Y'.1 ∈ z_ws ∧ z_Cl Y' n
def z_LS (own : String) (idx : Nat) (Y' : z_MD) (n : Nat) : Prop := Cond.methodLink own idx Y'.1 ∈ z_ws ∧ Cond.static Y'.1 ∈ z_ws ∧ z_Cl Y' n
def z_LN (own : String) (idx : Nat) (Y' : z_MD) (n : Nat) : Prop := (∃ host : String, (own, idx, Y'.1, host) ∈ z_nw) ∧ Cond.static Y'.1 ∈ z_ws ∧ z_Cl Y' n
def z_LI (own : String) (idx : Nat) (Y' : z_MD) (n : Nat) : Prop := Cond.methodLink own idx Y'.1 ∈ z_ws ∧ Cond.instanceMethod Y'.1 ∈ z_ws ∧ Y'.1.name = "<init>" ∧ Y'.2.2.2.1 = none ∧ z_Cl Y' n
section
variable {Y Y' : z_MD} {d d' : Nat × Nat} {kc ks mc ms pc q idx n k ci : Nat} {L S S0 As fs : List Value} {M M1 : List va_E} {Q : Option Value → List va_E → Prop} {r : Option Value} {v : Value}
theorem cv_V (hd : decode Y.2.1 pc = .ok (.invokevirtual idx, 3)) (hl : z_LV Y.1.cls idx Y' n) (hO : M[k]? = some (.inr (ci, fs))) (hcl : (z_cl[ci]?).map (fun r => r.1) = some Y'.1.cls) (hn : As.length = n) (hS8 : S.length ≤ 8) (hSr : S.all z_real = true) (hst : As.reverse ++ .ref k :: S = S0) (hq : pc + 3 = q) (hdd : d'.1 + 1 ≤ d.1 ∧ 8 + (Y'.2.2.1 + 11) + d'.2 ≤ d.2) (hM : z_Sp Y' d' 0 0 (.ref k :: As) M (fun r M' => r = some v ∧ M' = M1)) (kk : z_Ev Y d kc ks q L (v :: S) M1 Q) : z_Ev Y d kc ks pc L S0 M Q := by
  have h := ev_callV (kc := kc) (ks := ks) hd hl.1 hl.2.1 hl.2.2.1 hl.2.2.2 hO hcl hn hS8 hSr hst hq hdd hM (Q := Q) (L := L) (fun r M' h => by obtain ⟨rfl, rfl⟩ := h; exact kk)
  rwa [Nat.zero_add, Nat.zero_add] at h
theorem cv_Vv (hd : decode Y.2.1 pc = .ok (.invokevirtual idx, 3)) (hl : z_LV Y.1.cls idx Y' n) (hO : M[k]? = some (.inr (ci, fs))) (hcl : (z_cl[ci]?).map (fun r => r.1) = some Y'.1.cls) (hn : As.length = n) (hS8 : S.length ≤ 8) (hSr : S.all z_real = true) (hst : As.reverse ++ .ref k :: S = S0) (hq : pc + 3 = q) (hdd : d'.1 + 1 ≤ d.1 ∧ 8 + (Y'.2.2.1 + 11) + d'.2 ≤ d.2) (hM : z_Sp Y' d' 0 0 (.ref k :: As) M (fun r M' => r = none ∧ M' = M1)) (kk : z_Ev Y d kc ks q L S M1 Q) : z_Ev Y d kc ks pc L S0 M Q := by
  have h := ev_callV (kc := kc) (ks := ks) hd hl.1 hl.2.1 hl.2.2.1 hl.2.2.2 hO hcl hn hS8 hSr hst hq hdd hM (Q := Q) (L := L) (fun r M' h => by obtain ⟨rfl, rfl⟩ := h; exact kk)
  rwa [Nat.zero_add, Nat.zero_add] at h
theorem cv_S (hd : decode Y.2.1 pc = .ok (.invokestatic idx, 3)) (hl : z_LS Y.1.cls idx Y' n) (hn : As.length = n) (hS8 : S.length ≤ 8) (hSr : S.all z_real = true) (hst : As.reverse ++ S = S0) (hq : pc + 3 = q) (hdd : d'.1 + 1 ≤ d.1 ∧ 8 + (Y'.2.2.1 + 11) + d'.2 ≤ d.2) (hM : z_Sp Y' d' 0 0 As M (fun r M' => r = some v ∧ M' = M1)) (kk : z_Ev Y d kc ks q L (v :: S) M1 Q) : z_Ev Y d kc ks pc L S0 M Q := by
  have h := ev_callS (kc := kc) (ks := ks) hd hl.1 hl.2.1 hl.2.2 hn hS8 hSr hst hq hdd hM (Q := Q) (L := L) (fun r M' h => by obtain ⟨rfl, rfl⟩ := h; exact kk)
  rwa [Nat.zero_add, Nat.zero_add] at h
theorem cv_N (hd : decode Y.2.1 pc = .ok (.invokestatic idx, 3)) (hl : z_LN Y.1.cls idx Y' n) (hn : As.length = n) (hS8 : S.length ≤ 8) (hSr : S.all z_real = true) (hst : As.reverse ++ S = S0) (hq : pc + 3 = q) (hdd : d'.1 + 1 ≤ d.1 ∧ 8 + (Y'.2.2.1 + 11) + d'.2 ≤ d.2) (hM : z_Sp Y' d' 0 0 As M (fun r M' => r = some v ∧ M' = M1)) (kk : z_Ev Y d kc ks q L (v :: S) M1 Q) : z_Ev Y d kc ks pc L S0 M Q := by
  obtain ⟨⟨host, hh⟩, h2, h3⟩ := hl
  have h := ev_callSN (kc := kc) (ks := ks) hd hh h2 h3 hn hS8 hSr hst hq hdd hM (Q := Q) (L := L) (fun r M' h => by obtain ⟨rfl, rfl⟩ := h; exact kk)
  rwa [Nat.zero_add, Nat.zero_add] at h
theorem cv_I {kc1 ks1 : Nat} (hd : decode Y.2.1 pc = .ok (.invokespecial idx, 3)) (hl : z_LI Y.1.cls idx Y' n) (hn : As.length = n) (hS8 : S.length ≤ 8) (hSr : S.all z_real = true) (hst : As.reverse ++ .ref k :: S = S0) (hq : pc + 3 = q) (hkc : mc + kc = kc1) (hks : ms + ks = ks1) (hdd : d'.1 + 1 ≤ d.1 ∧ 8 + (Y'.2.2.1 + 11) + d'.2 ≤ d.2) (hM : z_Sp Y' d' mc ms (.ref k :: As) M (fun r M' => r = none ∧ M' = M1)) (kk : z_Ev Y d kc ks q L S M1 Q) : z_Ev Y d kc1 ks1 pc L S0 M Q := by
  subst hkc
  subst hks
  exact ev_callI hd hl.1 hl.2.1 hl.2.2.1 hl.2.2.2.1 hl.2.2.2.2 hn hS8 hSr hst hq hdd hM (fun r M' h => by obtain ⟨rfl, rfl⟩ := h; exact kk)
theorem cv_Va {kc1 ks1 : Nat} (hd : decode Y.2.1 pc = .ok (.invokevirtual idx, 3)) (hl : z_LV Y.1.cls idx Y' n) (hO : M[k]? = some (.inr (ci, fs))) (hcl : (z_cl[ci]?).map (fun r => r.1) = some Y'.1.cls) (hn : As.length = n) (hS8 : S.length ≤ 8) (hSr : S.all z_real = true) (hst : As.reverse ++ .ref k :: S = S0) (hq : pc + 3 = q) (hkc : mc + kc = kc1) (hks : ms + ks = ks1) (hdd : d'.1 + 1 ≤ d.1 ∧ 8 + (Y'.2.2.1 + 11) + d'.2 ≤ d.2) (hM : z_Sp Y' d' mc ms (.ref k :: As) M (fun r M' => r = some v ∧ M' = M1)) (kk : z_Ev Y d kc ks q L (v :: S) M1 Q) : z_Ev Y d kc1 ks1 pc L S0 M Q := by
  subst hkc
  subst hks
  exact ev_callV hd hl.1 hl.2.1 hl.2.2.1 hl.2.2.2 hO hcl hn hS8 hSr hst hq hdd hM (fun r M' h => by obtain ⟨rfl, rfl⟩ := h; exact kk)
end
end
section
-- numbers: sums, searches, columns
abbrev z_Sg : Type := Nat → Int → Int
def zb (p : Bool) : Int := if p = true then 1 else 0
theorem zb_t {p : Bool} (h : p = true) : zb p = 1 := by simp [zb, h]
theorem zb_f {p : Bool} (h : p = false) : zb p = 0 := by simp [zb, h]
theorem zb_01 (p : Bool) : zb p = 0 ∨ zb p = 1 := by cases p <;> simp [zb]
theorem zb_rg (p : Bool) : z_rg (zb p) := by rcases zb_01 p with h | h <;> rw [h] <;> exact ⟨by omega, by omega⟩
theorem zb_ne {p : Bool} (h : zb p ≠ 0) : p = true := by cases p <;> simp [zb] at h ⊢
theorem zb_eq {p : Bool} (h : zb p = 0) : p = false := by cases p <;> simp [zb] at h ⊢
def z_up (σ : z_Sg) (c : Nat) (i v : Int) : z_Sg := fun c' => if c' = c then zup (σ c) i v else σ c'
theorem z_up_s {σ : z_Sg} {c : Nat} {i v : Int} : z_up σ c i v c = zup (σ c) i v := by simp [z_up]
theorem z_up_n {σ : z_Sg} {c c' : Nat} {i v : Int} (h : c' ≠ c) : z_up σ c i v c' = σ c' := by simp [z_up, h]
def anyZ (n : Int) (p : Int → Bool) : Bool := (List.range n.toNat).any (fun k => p (k : Int))
theorem anyZ_t {n : Int} {p : Int → Bool} (k : Int) (h0 : 0 ≤ k) (h1 : k < n) (h : p k = true) : anyZ n p = true := by
  unfold anyZ
  rw [List.any_eq_true]
  refine ⟨k.toNat, List.mem_range.mpr (by omega), ?_⟩
  rw [Int.toNat_of_nonneg h0]
  exact h
theorem anyZ_f {n : Int} {p : Int → Bool} (h : ∀ k : Int, 0 ≤ k → k < n → p k = false) : anyZ n p = false := by
  unfold anyZ
  rw [List.any_eq_false]
  intro k hk
  rw [List.mem_range] at hk
  rw [h (k : Int) (by omega) (by omega)]
  decide
theorem anyZ_iff {n : Int} {p : Int → Bool} : anyZ n p = true ↔ ∃ k : Int, 0 ≤ k ∧ k < n ∧ p k = true := by
  constructor
  · intro h
    unfold anyZ at h
    rw [List.any_eq_true] at h
    obtain ⟨k, hk, h⟩ := h
    rw [List.mem_range] at hk
    exact ⟨k, by omega, by omega, h⟩
  · rintro ⟨k, h0, h1, h⟩
    exact anyZ_t k h0 h1 h
theorem anyZ_congr {n : Int} {p q : Int → Bool} (h : ∀ k : Int, 0 ≤ k → k < n → p k = q k) : anyZ n p = anyZ n q := by
  rw [Bool.eq_iff_iff, anyZ_iff, anyZ_iff]
  constructor
  · rintro ⟨k, h0, h1, h2⟩
    exact ⟨k, h0, h1, by rw [← h k h0 h1]; exact h2⟩
  · rintro ⟨k, h0, h1, h2⟩
    exact ⟨k, h0, h1, by rw [h k h0 h1]; exact h2⟩
def sumN (f : Int → Int) : Nat → Int
  | 0 => 0
  | n + 1 => sumN f n + f (n : Int)
def sumZ (n : Int) (f : Int → Int) : Int := sumN f n.toNat
theorem sumZ_0 {f : Int → Int} : sumZ 0 f = 0 := rfl
theorem sumZ_s {f : Int → Int} {n : Int} (h : 0 ≤ n) : sumZ (n + 1) f = sumZ n f + f n := by
  unfold sumZ
  rw [show (n + 1).toNat = n.toNat + 1 by omega, sumN, Int.toNat_of_nonneg h]
theorem sumN_congr {f g : Int → Int} : ∀ n : Nat, (∀ k : Int, 0 ≤ k → k < n → f k = g k) → sumN f n = sumN g n := by
  intro n
  induction n with
  | zero => intro _; rfl
  | succ n ih =>
    intro h
    rw [sumN, sumN, ih (fun k h0 h1 => h k h0 (by omega)), h (n : Int) (by omega) (by omega)]
theorem sumZ_congr {n : Int} {f g : Int → Int} (h : ∀ k : Int, 0 ≤ k → k < n → f k = g k) : sumZ n f = sumZ n g :=
  sumN_congr n.toNat (fun k h0 h1 => h k h0 (by omega))
theorem sumN_bound {f : Int → Int} {b : Int} : ∀ n : Nat, (∀ k : Int, 0 ≤ k → k < n → 0 ≤ f k ∧ f k ≤ b) → 0 ≤ sumN f n ∧ sumN f n ≤ b * n := by
  intro n
  induction n with
  | zero => intro _; simp [sumN]
  | succ n ih =>
    intro h
    have h1 := ih (fun k h0 h1 => h k h0 (by omega))
    have h2 := h (n : Int) (by omega) (by omega)
    rw [sumN]
    have h3 : b * ((n + 1 : Nat) : Int) = b * n + b := by rw [Int.natCast_add, Int.mul_add]; simp
    omega
theorem z_loop {P : Int → Prop} {n : Int} (h1 : P n) (h2 : ∀ k : Int, 0 ≤ k → k < n → P (k + 1) → P k) : ∀ k : Int, 0 ≤ k → k ≤ n → P k := by
  have key : ∀ (j : Nat) (k : Int), 0 ≤ k → k + j = n → P k := by
    intro j
    induction j with
    | zero => intro k _ hk; rw [show k = n by omega]; exact h1
    | succ j ih => intro k h0 hk; exact h2 k h0 (by omega) (ih (k + 1) (by omega) (by omega))
  intro k h0 hk
  exact key (n - k).toNat k h0 (by omega)
end
