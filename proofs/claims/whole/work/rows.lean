section
-- ===== PART A: goes FIRST, ahead of the names: the tables' words, and 'selects' of the private methods out of them =====
/-- a private method of a class that the tables say can be made, by its rows of tables_1 -/
def lw_okq (q : MethodName × Nat) : Prop := (q.1.cls ≠ "java/lang/invoke/MethodHandle" ∧ q.1.cls ≠ "java/lang/invoke/VarHandle") ∧ Cond.instantiable q.1.cls q.2 ∈ tables_1 ∧ Cond.privateMethod q.1 ∈ tables_1 ∧ Cond.instanceMethod q.1 ∈ tables_1
theorem lw_p0 : lw_okq (⟨"NotaryHall", "find", "(I)LNotaryHall$Transaction;"⟩, 8) := ⟨⟨by decide +kernel, by decide +kernel⟩, List.mem_of_getElem? (i := 12) (by decide +kernel), List.mem_of_getElem? (i := 192) (by decide +kernel), List.mem_of_getElem? (i := 193) (by decide +kernel)⟩
theorem lw_p1 : lw_okq (⟨"NotaryHall", "findState", "(II)LNotaryHall$State;"⟩, 8) := ⟨⟨by decide +kernel, by decide +kernel⟩, List.mem_of_getElem? (i := 12) (by decide +kernel), List.mem_of_getElem? (i := 196) (by decide +kernel), List.mem_of_getElem? (i := 197) (by decide +kernel)⟩
theorem lw_p2 : lw_okq (⟨"NotaryHall", "stateNumbersEnd", "()I"⟩, 8) := ⟨⟨by decide +kernel, by decide +kernel⟩, List.mem_of_getElem? (i := 12) (by decide +kernel), List.mem_of_getElem? (i := 276) (by decide +kernel), List.mem_of_getElem? (i := 277) (by decide +kernel)⟩
theorem lw_p3 : lw_okq (⟨"NotaryHall", "stateNumbered", "(I)LNotaryHall$State;"⟩, 8) := ⟨⟨by decide +kernel, by decide +kernel⟩, List.mem_of_getElem? (i := 12) (by decide +kernel), List.mem_of_getElem? (i := 280) (by decide +kernel), List.mem_of_getElem? (i := 281) (by decide +kernel)⟩
theorem lw_p4 : lw_okq (⟨"NotaryHall", "isCoin", "(LNotaryHall$State;ILNotaryHall$Transaction;)Z"⟩, 8) := ⟨⟨by decide +kernel, by decide +kernel⟩, List.mem_of_getElem? (i := 12) (by decide +kernel), List.mem_of_getElem? (i := 284) (by decide +kernel), List.mem_of_getElem? (i := 285) (by decide +kernel)⟩
theorem lw_p5 : lw_okq (⟨"NotaryHall", "isInVault", "(LNotaryHall$State;I)Z"⟩, 8) := ⟨⟨by decide +kernel, by decide +kernel⟩, List.mem_of_getElem? (i := 12) (by decide +kernel), List.mem_of_getElem? (i := 300) (by decide +kernel), List.mem_of_getElem? (i := 301) (by decide +kernel)⟩
theorem lw_p6 : lw_okq (⟨"NotaryHall", "isKnownInput", "(LNotaryHall$State;I)Z"⟩, 8) := ⟨⟨by decide +kernel, by decide +kernel⟩, List.mem_of_getElem? (i := 12) (by decide +kernel), List.mem_of_getElem? (i := 312) (by decide +kernel), List.mem_of_getElem? (i := 313) (by decide +kernel)⟩
theorem lw_p7 : lw_okq (⟨"NotaryHall", "isHeld", "(LNotaryHall$State;I)Z"⟩, 8) := ⟨⟨by decide +kernel, by decide +kernel⟩, List.mem_of_getElem? (i := 12) (by decide +kernel), List.mem_of_getElem? (i := 316) (by decide +kernel), List.mem_of_getElem? (i := 317) (by decide +kernel)⟩
theorem lw_p8 : lw_okq (⟨"NotaryHall", "takeCoins", "(LNotaryHall$Transaction;I)V"⟩, 8) := ⟨⟨by decide +kernel, by decide +kernel⟩, List.mem_of_getElem? (i := 12) (by decide +kernel), List.mem_of_getElem? (i := 324) (by decide +kernel), List.mem_of_getElem? (i := 325) (by decide +kernel)⟩
theorem lw_p9 : lw_okq (⟨"NotaryHall$Transaction", "allowsInput", "(LNotaryHall$State;)Z"⟩, 15) := ⟨⟨by decide +kernel, by decide +kernel⟩, List.mem_of_getElem? (i := 103) (by decide +kernel), List.mem_of_getElem? (i := 340) (by decide +kernel), List.mem_of_getElem? (i := 341) (by decide +kernel)⟩
theorem lw_p10 : lw_okq (⟨"NotaryHall$Transaction", "mustSign", "(I)Z"⟩, 15) := ⟨⟨by decide +kernel, by decide +kernel⟩, List.mem_of_getElem? (i := 103) (by decide +kernel), List.mem_of_getElem? (i := 359) (by decide +kernel), List.mem_of_getElem? (i := 360) (by decide +kernel)⟩
theorem lw_p11 : lw_okq (⟨"NotaryHall$Transaction", "owesMore", "(I)Z"⟩, 15) := ⟨⟨by decide +kernel, by decide +kernel⟩, List.mem_of_getElem? (i := 103) (by decide +kernel), List.mem_of_getElem? (i := 373) (by decide +kernel), List.mem_of_getElem? (i := 374) (by decide +kernel)⟩
theorem lw_p12 : lw_okq (⟨"NotaryHall$Transaction", "isLetDown", "(I)Z"⟩, 15) := ⟨⟨by decide +kernel, by decide +kernel⟩, List.mem_of_getElem? (i := 103) (by decide +kernel), List.mem_of_getElem? (i := 385) (by decide +kernel), List.mem_of_getElem? (i := 386) (by decide +kernel)⟩
theorem lw_p13 : lw_okq (⟨"NotaryHall", "sendNotarise", "(LNotaryHall$Transaction;)I"⟩, 8) := ⟨⟨by decide +kernel, by decide +kernel⟩, List.mem_of_getElem? (i := 12) (by decide +kernel), List.mem_of_getElem? (i := 402) (by decide +kernel), List.mem_of_getElem? (i := 403) (by decide +kernel)⟩
theorem lw_p14 : lw_okq (⟨"NotaryHall", "send", "(ILNotaryHall$Transaction;III)I"⟩, 8) := ⟨⟨by decide +kernel, by decide +kernel⟩, List.mem_of_getElem? (i := 12) (by decide +kernel), List.mem_of_getElem? (i := 406) (by decide +kernel), List.mem_of_getElem? (i := 407) (by decide +kernel)⟩
theorem lw_p15 : lw_okq (⟨"NotaryHall$Mailbox", "isWaiting", "(I)Z"⟩, 2) := ⟨⟨by decide +kernel, by decide +kernel⟩, List.mem_of_getElem? (i := 49) (by decide +kernel), List.mem_of_getElem? (i := 417) (by decide +kernel), List.mem_of_getElem? (i := 418) (by decide +kernel)⟩
def lw_privs_1 : List (MethodName × Nat) := [(⟨"NotaryHall", "find", "(I)LNotaryHall$Transaction;"⟩, 8), (⟨"NotaryHall", "findState", "(II)LNotaryHall$State;"⟩, 8), (⟨"NotaryHall", "stateNumbersEnd", "()I"⟩, 8), (⟨"NotaryHall", "stateNumbered", "(I)LNotaryHall$State;"⟩, 8), (⟨"NotaryHall", "isCoin", "(LNotaryHall$State;ILNotaryHall$Transaction;)Z"⟩, 8), (⟨"NotaryHall", "isInVault", "(LNotaryHall$State;I)Z"⟩, 8), (⟨"NotaryHall", "isKnownInput", "(LNotaryHall$State;I)Z"⟩, 8), (⟨"NotaryHall", "isHeld", "(LNotaryHall$State;I)Z"⟩, 8), (⟨"NotaryHall", "takeCoins", "(LNotaryHall$Transaction;I)V"⟩, 8), (⟨"NotaryHall$Transaction", "allowsInput", "(LNotaryHall$State;)Z"⟩, 15), (⟨"NotaryHall$Transaction", "mustSign", "(I)Z"⟩, 15), (⟨"NotaryHall$Transaction", "owesMore", "(I)Z"⟩, 15), (⟨"NotaryHall$Transaction", "isLetDown", "(I)Z"⟩, 15), (⟨"NotaryHall", "sendNotarise", "(LNotaryHall$Transaction;)I"⟩, 8), (⟨"NotaryHall", "send", "(ILNotaryHall$Transaction;III)I"⟩, 8), (⟨"NotaryHall$Mailbox", "isWaiting", "(I)Z"⟩, 2)]
theorem lw_r1 : ∀ q ∈ lw_privs_1, lw_okq q := List.forall_mem_cons.mpr ⟨lw_p0, List.forall_mem_cons.mpr ⟨lw_p1, List.forall_mem_cons.mpr ⟨lw_p2, List.forall_mem_cons.mpr ⟨lw_p3, List.forall_mem_cons.mpr ⟨lw_p4, List.forall_mem_cons.mpr ⟨lw_p5, List.forall_mem_cons.mpr ⟨lw_p6, List.forall_mem_cons.mpr ⟨lw_p7, List.forall_mem_cons.mpr ⟨lw_p8, List.forall_mem_cons.mpr ⟨lw_p9, List.forall_mem_cons.mpr ⟨lw_p10, List.forall_mem_cons.mpr ⟨lw_p11, List.forall_mem_cons.mpr ⟨lw_p12, List.forall_mem_cons.mpr ⟨lw_p13, List.forall_mem_cons.mpr ⟨lw_p14, List.forall_mem_cons.mpr ⟨lw_p15, fun _ h => absurd h List.not_mem_nil⟩⟩⟩⟩⟩⟩⟩⟩⟩⟩⟩⟩⟩⟩⟩⟩
theorem lw_p16 : lw_okq (⟨"NotaryHall", "sendToOthers", "(ILNotaryHall$Transaction;I)I"⟩, 8) := ⟨⟨by decide +kernel, by decide +kernel⟩, List.mem_of_getElem? (i := 12) (by decide +kernel), List.mem_of_getElem? (i := 421) (by decide +kernel), List.mem_of_getElem? (i := 422) (by decide +kernel)⟩
theorem lw_p17 : lw_okq (⟨"NotaryHall", "receive", "(IZ)I"⟩, 8) := ⟨⟨by decide +kernel, by decide +kernel⟩, List.mem_of_getElem? (i := 12) (by decide +kernel), List.mem_of_getElem? (i := 433) (by decide +kernel), List.mem_of_getElem? (i := 434) (by decide +kernel)⟩
theorem lw_p18 : lw_okq (⟨"NotaryHall", "receiveAsk", "(LNotaryHall$Transaction;IZ)I"⟩, 8) := ⟨⟨by decide +kernel, by decide +kernel⟩, List.mem_of_getElem? (i := 12) (by decide +kernel), List.mem_of_getElem? (i := 449) (by decide +kernel), List.mem_of_getElem? (i := 450) (by decide +kernel)⟩
theorem lw_p19 : lw_okq (⟨"NotaryHall", "receiveReply", "(LNotaryHall$Transaction;IIZ)I"⟩, 8) := ⟨⟨by decide +kernel, by decide +kernel⟩, List.mem_of_getElem? (i := 12) (by decide +kernel), List.mem_of_getElem? (i := 471) (by decide +kernel), List.mem_of_getElem? (i := 472) (by decide +kernel)⟩
theorem lw_p20 : lw_okq (⟨"NotaryHall", "receiveNotarise", "(LNotaryHall$Transaction;)I"⟩, 8) := ⟨⟨by decide +kernel, by decide +kernel⟩, List.mem_of_getElem? (i := 12) (by decide +kernel), List.mem_of_getElem? (i := 475) (by decide +kernel), List.mem_of_getElem? (i := 476) (by decide +kernel)⟩
theorem lw_p21 : lw_okq (⟨"NotaryHall", "judge", "(LNotaryHall$Transaction;)I"⟩, 8) := ⟨⟨by decide +kernel, by decide +kernel⟩, List.mem_of_getElem? (i := 12) (by decide +kernel), List.mem_of_getElem? (i := 479) (by decide +kernel), List.mem_of_getElem? (i := 480) (by decide +kernel)⟩
theorem lw_p22 : lw_okq (⟨"NotaryHall", "isAnyInputUsedUp", "(LNotaryHall$Transaction;)Z"⟩, 8) := ⟨⟨by decide +kernel, by decide +kernel⟩, List.mem_of_getElem? (i := 12) (by decide +kernel), List.mem_of_getElem? (i := 483) (by decide +kernel), List.mem_of_getElem? (i := 484) (by decide +kernel)⟩
theorem lw_p23 : lw_okq (⟨"NotaryHall", "useUpInputs", "(LNotaryHall$Transaction;)V"⟩, 8) := ⟨⟨by decide +kernel, by decide +kernel⟩, List.mem_of_getElem? (i := 12) (by decide +kernel), List.mem_of_getElem? (i := 487) (by decide +kernel), List.mem_of_getElem? (i := 488) (by decide +kernel)⟩
theorem lw_p24 : lw_okq (⟨"NotaryHall", "receiveVerdict", "(LNotaryHall$Transaction;IZ)I"⟩, 8) := ⟨⟨by decide +kernel, by decide +kernel⟩, List.mem_of_getElem? (i := 12) (by decide +kernel), List.mem_of_getElem? (i := 491) (by decide +kernel), List.mem_of_getElem? (i := 492) (by decide +kernel)⟩
theorem lw_p25 : lw_okq (⟨"NotaryHall", "settle", "(LNotaryHall$Transaction;I)V"⟩, 8) := ⟨⟨by decide +kernel, by decide +kernel⟩, List.mem_of_getElem? (i := 12) (by decide +kernel), List.mem_of_getElem? (i := 500) (by decide +kernel), List.mem_of_getElem? (i := 501) (by decide +kernel)⟩
theorem lw_p26 : lw_okq (⟨"NotaryHall", "receiveFinality", "(LNotaryHall$Transaction;IZ)I"⟩, 8) := ⟨⟨by decide +kernel, by decide +kernel⟩, List.mem_of_getElem? (i := 12) (by decide +kernel), List.mem_of_getElem? (i := 508) (by decide +kernel), List.mem_of_getElem? (i := 509) (by decide +kernel)⟩
theorem lw_p27 : lw_okq (⟨"NotaryHall$Transaction", "inputLeaf", "(I)I"⟩, 15) := ⟨⟨by decide +kernel, by decide +kernel⟩, List.mem_of_getElem? (i := 103) (by decide +kernel), List.mem_of_getElem? (i := 570) (by decide +kernel), List.mem_of_getElem? (i := 571) (by decide +kernel)⟩
theorem lw_p28 : lw_okq (⟨"NotaryHall$Transaction", "outputLeaf", "(I)I"⟩, 15) := ⟨⟨by decide +kernel, by decide +kernel⟩, List.mem_of_getElem? (i := 103) (by decide +kernel), List.mem_of_getElem? (i := 574) (by decide +kernel), List.mem_of_getElem? (i := 575) (by decide +kernel)⟩
theorem lw_p29 : lw_okq (⟨"NotaryHallModel", "isNode", "(I)Z"⟩, 27) := ⟨⟨by decide +kernel, by decide +kernel⟩, List.mem_of_getElem? (i := 585) (by decide +kernel), List.mem_of_getElem? (i := 678) (by decide +kernel), List.mem_of_getElem? (i := 679) (by decide +kernel)⟩
theorem lw_p30 : lw_okq (⟨"NotaryHallModel", "isTx", "(I)Z"⟩, 27) := ⟨⟨by decide +kernel, by decide +kernel⟩, List.mem_of_getElem? (i := 585) (by decide +kernel), List.mem_of_getElem? (i := 687) (by decide +kernel), List.mem_of_getElem? (i := 688) (by decide +kernel)⟩
theorem lw_p31 : lw_okq (⟨"NotaryHallModel", "isState", "(II)Z"⟩, 27) := ⟨⟨by decide +kernel, by decide +kernel⟩, List.mem_of_getElem? (i := 585) (by decide +kernel), List.mem_of_getElem? (i := 691) (by decide +kernel), List.mem_of_getElem? (i := 692) (by decide +kernel)⟩
def lw_privs_2 : List (MethodName × Nat) := [(⟨"NotaryHall", "sendToOthers", "(ILNotaryHall$Transaction;I)I"⟩, 8), (⟨"NotaryHall", "receive", "(IZ)I"⟩, 8), (⟨"NotaryHall", "receiveAsk", "(LNotaryHall$Transaction;IZ)I"⟩, 8), (⟨"NotaryHall", "receiveReply", "(LNotaryHall$Transaction;IIZ)I"⟩, 8), (⟨"NotaryHall", "receiveNotarise", "(LNotaryHall$Transaction;)I"⟩, 8), (⟨"NotaryHall", "judge", "(LNotaryHall$Transaction;)I"⟩, 8), (⟨"NotaryHall", "isAnyInputUsedUp", "(LNotaryHall$Transaction;)Z"⟩, 8), (⟨"NotaryHall", "useUpInputs", "(LNotaryHall$Transaction;)V"⟩, 8), (⟨"NotaryHall", "receiveVerdict", "(LNotaryHall$Transaction;IZ)I"⟩, 8), (⟨"NotaryHall", "settle", "(LNotaryHall$Transaction;I)V"⟩, 8), (⟨"NotaryHall", "receiveFinality", "(LNotaryHall$Transaction;IZ)I"⟩, 8), (⟨"NotaryHall$Transaction", "inputLeaf", "(I)I"⟩, 15), (⟨"NotaryHall$Transaction", "outputLeaf", "(I)I"⟩, 15), (⟨"NotaryHallModel", "isNode", "(I)Z"⟩, 27), (⟨"NotaryHallModel", "isTx", "(I)Z"⟩, 27), (⟨"NotaryHallModel", "isState", "(II)Z"⟩, 27)]
theorem lw_r2 : ∀ q ∈ lw_privs_2, lw_okq q := List.forall_mem_cons.mpr ⟨lw_p16, List.forall_mem_cons.mpr ⟨lw_p17, List.forall_mem_cons.mpr ⟨lw_p18, List.forall_mem_cons.mpr ⟨lw_p19, List.forall_mem_cons.mpr ⟨lw_p20, List.forall_mem_cons.mpr ⟨lw_p21, List.forall_mem_cons.mpr ⟨lw_p22, List.forall_mem_cons.mpr ⟨lw_p23, List.forall_mem_cons.mpr ⟨lw_p24, List.forall_mem_cons.mpr ⟨lw_p25, List.forall_mem_cons.mpr ⟨lw_p26, List.forall_mem_cons.mpr ⟨lw_p27, List.forall_mem_cons.mpr ⟨lw_p28, List.forall_mem_cons.mpr ⟨lw_p29, List.forall_mem_cons.mpr ⟨lw_p30, List.forall_mem_cons.mpr ⟨lw_p31, fun _ h => absurd h List.not_mem_nil⟩⟩⟩⟩⟩⟩⟩⟩⟩⟩⟩⟩⟩⟩⟩⟩
theorem lw_p32 : lw_okq (⟨"NotaryHallModel", "isInput", "(II)Z"⟩, 27) := ⟨⟨by decide +kernel, by decide +kernel⟩, List.mem_of_getElem? (i := 585) (by decide +kernel), List.mem_of_getElem? (i := 695) (by decide +kernel), List.mem_of_getElem? (i := 696) (by decide +kernel)⟩
theorem lw_p33 : lw_okq (⟨"NotaryHallModel", "addInput", "(II)V"⟩, 27) := ⟨⟨by decide +kernel, by decide +kernel⟩, List.mem_of_getElem? (i := 585) (by decide +kernel), List.mem_of_getElem? (i := 699) (by decide +kernel), List.mem_of_getElem? (i := 700) (by decide +kernel)⟩
theorem lw_p34 : lw_okq (⟨"NotaryHallModel", "addOutput", "(IIIII)V"⟩, 27) := ⟨⟨by decide +kernel, by decide +kernel⟩, List.mem_of_getElem? (i := 585) (by decide +kernel), List.mem_of_getElem? (i := 707) (by decide +kernel), List.mem_of_getElem? (i := 708) (by decide +kernel)⟩
theorem lw_p35 : lw_okq (⟨"NotaryHallModel", "coin", "(III)Z"⟩, 27) := ⟨⟨by decide +kernel, by decide +kernel⟩, List.mem_of_getElem? (i := 585) (by decide +kernel), List.mem_of_getElem? (i := 719) (by decide +kernel), List.mem_of_getElem? (i := 720) (by decide +kernel)⟩
theorem lw_p36 : lw_okq (⟨"NotaryHallModel", "inVault", "(II)Z"⟩, 27) := ⟨⟨by decide +kernel, by decide +kernel⟩, List.mem_of_getElem? (i := 585) (by decide +kernel), List.mem_of_getElem? (i := 723) (by decide +kernel), List.mem_of_getElem? (i := 724) (by decide +kernel)⟩
theorem lw_p37 : lw_okq (⟨"NotaryHallModel", "concerns", "(II)Z"⟩, 27) := ⟨⟨by decide +kernel, by decide +kernel⟩, List.mem_of_getElem? (i := 585) (by decide +kernel), List.mem_of_getElem? (i := 727) (by decide +kernel), List.mem_of_getElem? (i := 728) (by decide +kernel)⟩
theorem lw_p38 : lw_okq (⟨"NotaryHallModel", "held", "(II)Z"⟩, 27) := ⟨⟨by decide +kernel, by decide +kernel⟩, List.mem_of_getElem? (i := 585) (by decide +kernel), List.mem_of_getElem? (i := 731) (by decide +kernel), List.mem_of_getElem? (i := 732) (by decide +kernel)⟩
theorem lw_p39 : lw_okq (⟨"NotaryHallModel", "valid", "(I)Z"⟩, 27) := ⟨⟨by decide +kernel, by decide +kernel⟩, List.mem_of_getElem? (i := 585) (by decide +kernel), List.mem_of_getElem? (i := 743) (by decide +kernel), List.mem_of_getElem? (i := 744) (by decide +kernel)⟩
theorem lw_p40 : lw_okq (⟨"NotaryHallModel", "alone", "(I)Z"⟩, 27) := ⟨⟨by decide +kernel, by decide +kernel⟩, List.mem_of_getElem? (i := 585) (by decide +kernel), List.mem_of_getElem? (i := 747) (by decide +kernel), List.mem_of_getElem? (i := 748) (by decide +kernel)⟩
theorem lw_p41 : lw_okq (⟨"NotaryHallModel", "needs", "(I)I"⟩, 27) := ⟨⟨by decide +kernel, by decide +kernel⟩, List.mem_of_getElem? (i := 585) (by decide +kernel), List.mem_of_getElem? (i := 751) (by decide +kernel), List.mem_of_getElem? (i := 752) (by decide +kernel)⟩
theorem lw_p42 : lw_okq (⟨"NotaryHallModel", "mustSign", "(II)Z"⟩, 27) := ⟨⟨by decide +kernel, by decide +kernel⟩, List.mem_of_getElem? (i := 585) (by decide +kernel), List.mem_of_getElem? (i := 755) (by decide +kernel), List.mem_of_getElem? (i := 756) (by decide +kernel)⟩
theorem lw_p43 : lw_okq (⟨"NotaryHallModel", "gain", "(IIII)I"⟩, 27) := ⟨⟨by decide +kernel, by decide +kernel⟩, List.mem_of_getElem? (i := 585) (by decide +kernel), List.mem_of_getElem? (i := 759) (by decide +kernel), List.mem_of_getElem? (i := 760) (by decide +kernel)⟩
theorem lw_p44 : lw_okq (⟨"NotaryHallModel", "letDown", "(II)Z"⟩, 27) := ⟨⟨by decide +kernel, by decide +kernel⟩, List.mem_of_getElem? (i := 585) (by decide +kernel), List.mem_of_getElem? (i := 763) (by decide +kernel), List.mem_of_getElem? (i := 764) (by decide +kernel)⟩
theorem lw_p45 : lw_okq (⟨"NotaryHallModel", "send", "(IIIII)I"⟩, 27) := ⟨⟨by decide +kernel, by decide +kernel⟩, List.mem_of_getElem? (i := 585) (by decide +kernel), List.mem_of_getElem? (i := 767) (by decide +kernel), List.mem_of_getElem? (i := 768) (by decide +kernel)⟩
theorem lw_p46 : lw_okq (⟨"NotaryHallModel", "ask", "(IIZ)V"⟩, 27) := ⟨⟨by decide +kernel, by decide +kernel⟩, List.mem_of_getElem? (i := 585) (by decide +kernel), List.mem_of_getElem? (i := 775) (by decide +kernel), List.mem_of_getElem? (i := 776) (by decide +kernel)⟩
theorem lw_p47 : lw_okq (⟨"NotaryHallModel", "fetch", "(II)V"⟩, 27) := ⟨⟨by decide +kernel, by decide +kernel⟩, List.mem_of_getElem? (i := 585) (by decide +kernel), List.mem_of_getElem? (i := 779) (by decide +kernel), List.mem_of_getElem? (i := 780) (by decide +kernel)⟩
def lw_privs_3 : List (MethodName × Nat) := [(⟨"NotaryHallModel", "isInput", "(II)Z"⟩, 27), (⟨"NotaryHallModel", "addInput", "(II)V"⟩, 27), (⟨"NotaryHallModel", "addOutput", "(IIIII)V"⟩, 27), (⟨"NotaryHallModel", "coin", "(III)Z"⟩, 27), (⟨"NotaryHallModel", "inVault", "(II)Z"⟩, 27), (⟨"NotaryHallModel", "concerns", "(II)Z"⟩, 27), (⟨"NotaryHallModel", "held", "(II)Z"⟩, 27), (⟨"NotaryHallModel", "valid", "(I)Z"⟩, 27), (⟨"NotaryHallModel", "alone", "(I)Z"⟩, 27), (⟨"NotaryHallModel", "needs", "(I)I"⟩, 27), (⟨"NotaryHallModel", "mustSign", "(II)Z"⟩, 27), (⟨"NotaryHallModel", "gain", "(IIII)I"⟩, 27), (⟨"NotaryHallModel", "letDown", "(II)Z"⟩, 27), (⟨"NotaryHallModel", "send", "(IIIII)I"⟩, 27), (⟨"NotaryHallModel", "ask", "(IIZ)V"⟩, 27), (⟨"NotaryHallModel", "fetch", "(II)V"⟩, 27)]
theorem lw_r3 : ∀ q ∈ lw_privs_3, lw_okq q := List.forall_mem_cons.mpr ⟨lw_p32, List.forall_mem_cons.mpr ⟨lw_p33, List.forall_mem_cons.mpr ⟨lw_p34, List.forall_mem_cons.mpr ⟨lw_p35, List.forall_mem_cons.mpr ⟨lw_p36, List.forall_mem_cons.mpr ⟨lw_p37, List.forall_mem_cons.mpr ⟨lw_p38, List.forall_mem_cons.mpr ⟨lw_p39, List.forall_mem_cons.mpr ⟨lw_p40, List.forall_mem_cons.mpr ⟨lw_p41, List.forall_mem_cons.mpr ⟨lw_p42, List.forall_mem_cons.mpr ⟨lw_p43, List.forall_mem_cons.mpr ⟨lw_p44, List.forall_mem_cons.mpr ⟨lw_p45, List.forall_mem_cons.mpr ⟨lw_p46, List.forall_mem_cons.mpr ⟨lw_p47, fun _ h => absurd h List.not_mem_nil⟩⟩⟩⟩⟩⟩⟩⟩⟩⟩⟩⟩⟩⟩⟩⟩
theorem lw_p48 : lw_okq (⟨"NotaryHallModel", "reply", "(IIIZ)I"⟩, 27) := ⟨⟨by decide +kernel, by decide +kernel⟩, List.mem_of_getElem? (i := 585) (by decide +kernel), List.mem_of_getElem? (i := 783) (by decide +kernel), List.mem_of_getElem? (i := 784) (by decide +kernel)⟩
theorem lw_p49 : lw_okq (⟨"NotaryHallModel", "notarise", "(I)V"⟩, 27) := ⟨⟨by decide +kernel, by decide +kernel⟩, List.mem_of_getElem? (i := 585) (by decide +kernel), List.mem_of_getElem? (i := 787) (by decide +kernel), List.mem_of_getElem? (i := 788) (by decide +kernel)⟩
theorem lw_p50 : lw_okq (⟨"NotaryHallModel", "judge", "(I)I"⟩, 27) := ⟨⟨by decide +kernel, by decide +kernel⟩, List.mem_of_getElem? (i := 585) (by decide +kernel), List.mem_of_getElem? (i := 791) (by decide +kernel), List.mem_of_getElem? (i := 792) (by decide +kernel)⟩
theorem lw_p51 : lw_okq (⟨"NotaryHallModel", "sound", "(I)Z"⟩, 27) := ⟨⟨by decide +kernel, by decide +kernel⟩, List.mem_of_getElem? (i := 585) (by decide +kernel), List.mem_of_getElem? (i := 795) (by decide +kernel), List.mem_of_getElem? (i := 796) (by decide +kernel)⟩
theorem lw_p52 : lw_okq (⟨"NotaryHallModel", "hear", "(IIZ)I"⟩, 27) := ⟨⟨by decide +kernel, by decide +kernel⟩, List.mem_of_getElem? (i := 585) (by decide +kernel), List.mem_of_getElem? (i := 799) (by decide +kernel), List.mem_of_getElem? (i := 800) (by decide +kernel)⟩
theorem lw_p53 : lw_okq (⟨"NotaryHallModel", "told", "(II)Z"⟩, 27) := ⟨⟨by decide +kernel, by decide +kernel⟩, List.mem_of_getElem? (i := 585) (by decide +kernel), List.mem_of_getElem? (i := 803) (by decide +kernel), List.mem_of_getElem? (i := 804) (by decide +kernel)⟩
theorem lw_p54 : lw_okq (⟨"NotaryHallModel", "close", "(IIZ)I"⟩, 27) := ⟨⟨by decide +kernel, by decide +kernel⟩, List.mem_of_getElem? (i := 585) (by decide +kernel), List.mem_of_getElem? (i := 807) (by decide +kernel), List.mem_of_getElem? (i := 808) (by decide +kernel)⟩
theorem lw_p55 : lw_okq (⟨"NotaryHallModel", "leaf", "(II)I"⟩, 27) := ⟨⟨by decide +kernel, by decide +kernel⟩, List.mem_of_getElem? (i := 585) (by decide +kernel), List.mem_of_getElem? (i := 859) (by decide +kernel), List.mem_of_getElem? (i := 860) (by decide +kernel)⟩
def lw_privs_4 : List (MethodName × Nat) := [(⟨"NotaryHallModel", "reply", "(IIIZ)I"⟩, 27), (⟨"NotaryHallModel", "notarise", "(I)V"⟩, 27), (⟨"NotaryHallModel", "judge", "(I)I"⟩, 27), (⟨"NotaryHallModel", "sound", "(I)Z"⟩, 27), (⟨"NotaryHallModel", "hear", "(IIZ)I"⟩, 27), (⟨"NotaryHallModel", "told", "(II)Z"⟩, 27), (⟨"NotaryHallModel", "close", "(IIZ)I"⟩, 27), (⟨"NotaryHallModel", "leaf", "(II)I"⟩, 27)]
theorem lw_r4 : ∀ q ∈ lw_privs_4, lw_okq q := List.forall_mem_cons.mpr ⟨lw_p48, List.forall_mem_cons.mpr ⟨lw_p49, List.forall_mem_cons.mpr ⟨lw_p50, List.forall_mem_cons.mpr ⟨lw_p51, List.forall_mem_cons.mpr ⟨lw_p52, List.forall_mem_cons.mpr ⟨lw_p53, List.forall_mem_cons.mpr ⟨lw_p54, List.forall_mem_cons.mpr ⟨lw_p55, fun _ h => absurd h List.not_mem_nil⟩⟩⟩⟩⟩⟩⟩⟩
def lw_privs : List (MethodName × Nat) := lw_privs_1 ++ (lw_privs_2 ++ (lw_privs_3 ++ (lw_privs_4)))
def lw_tbl : List Cond := k2_sels lw_privs ++ tables_1
theorem lw_privs_ok : ∀ q ∈ lw_privs, lw_okq q := by
  show ∀ q ∈ lw_privs_1 ++ (lw_privs_2 ++ (lw_privs_3 ++ (lw_privs_4))), lw_okq q
  exact List.forall_mem_append.mpr ⟨lw_r1, List.forall_mem_append.mpr ⟨lw_r2, List.forall_mem_append.mpr ⟨lw_r3, lw_r4⟩⟩⟩
end
section
-- names: classes, fields, words of the tables (written by wip/whole/mknames.py out of the Statement)
abbrev z_MD : Type := MethodName × ByteArray × Nat × Option FieldType × Nat × (Nat → Int32)
def zTH : u_T := fun k => match k with
  | 0 => ("NotaryHall", "transactions", "[LNotaryHall$Transaction;", true)
  | 1 => ("NotaryHall", "transactionCount", "I", false)
  | 2 => ("NotaryHall", "nodes", "[LNotaryHall$Node;", true)
  | 3 => ("NotaryHall", "mailbox", "LNotaryHall$Mailbox;", true)
  | 4 => ("NotaryHall", "spenders", "[I", true)
  | 5 => ("NotaryHall", "coins", "[I", true)
  | 6 => ("NotaryHall", "treeRow", "[I", true)
  | _ => ("NotaryHall", "clock", "I", false)
def zYH : Nat → FieldType := fun k => match k with
  | 0 => .array (.object "NotaryHall$Transaction")
  | 1 => .int
  | 2 => .array (.object "NotaryHall$Node")
  | 3 => .object "NotaryHall$Mailbox"
  | 4 => .array .int
  | 5 => .array .int
  | 6 => .array .int
  | _ => .int
theorem zMH : ∀ a, a < 8 → ∀ b, b < 8 → a ≠ b → (zTH a).2.1 ≠ (zTH b).2.1 := by decide +kernel
theorem zKH : ∀ k, k < 8 → parseFieldDescriptor (zTH k).2.2.1 = some (zYH k) := by decide +kernel
def zTN : u_T := fun k => match k with
  | 0 => ("NotaryHall$Node", "known", "I", false)
  | 1 => ("NotaryHall$Node", "recorded", "I", false)
  | 2 => ("NotaryHall$Node", "fetchedCount", "I", false)
  | _ => ("NotaryHall$Node", "consents", "I", false)
def zYN : Nat → FieldType := fun k => match k with
  | 0 => .int
  | 1 => .int
  | 2 => .int
  | _ => .int
theorem zMN : ∀ a, a < 4 → ∀ b, b < 4 → a ≠ b → (zTN a).2.1 ≠ (zTN b).2.1 := by decide +kernel
theorem zKN : ∀ k, k < 4 → parseFieldDescriptor (zTN k).2.2.1 = some (zYN k) := by decide +kernel
def zTB : u_T := fun k => match k with
  | 0 => ("NotaryHall$Mailbox", "codes", "[I", true)
  | _ => ("NotaryHall$Mailbox", "count", "I", false)
def zYB : Nat → FieldType := fun k => match k with
  | 0 => .array .int
  | _ => .int
theorem zMB : ∀ a, a < 2 → ∀ b, b < 2 → a ≠ b → (zTB a).2.1 ≠ (zTB b).2.1 := by decide +kernel
theorem zKB : ∀ k, k < 2 → parseFieldDescriptor (zTB k).2.2.1 = some (zYB k) := by decide +kernel
def zTT : u_T := fun k => match k with
  | 0 => ("NotaryHall$Transaction", "number", "I", true)
  | 1 => ("NotaryHall$Transaction", "initiator", "I", true)
  | 2 => ("NotaryHall$Transaction", "notary", "I", true)
  | 3 => ("NotaryHall$Transaction", "from", "I", true)
  | 4 => ("NotaryHall$Transaction", "until", "I", true)
  | 5 => ("NotaryHall$Transaction", "inputs", "LNotaryHall$StateList;", true)
  | 6 => ("NotaryHall$Transaction", "outputs", "LNotaryHall$StateList;", true)
  | 7 => ("NotaryHall$Transaction", "ancestors", "I", false)
  | 8 => ("NotaryHall$Transaction", "stage", "I", false)
  | 9 => ("NotaryHall$Transaction", "needed", "I", false)
  | 10 => ("NotaryHall$Transaction", "sound", "Z", false)
  | 11 => ("NotaryHall$Transaction", "signed", "I", false)
  | 12 => ("NotaryHall$Transaction", "decided", "I", false)
  | 13 => ("NotaryHall$Transaction", "agreed", "I", false)
  | _ => ("NotaryHall$Transaction", "verdict", "I", false)
def zYT : Nat → FieldType := fun k => match k with
  | 0 => .int
  | 1 => .int
  | 2 => .int
  | 3 => .int
  | 4 => .int
  | 5 => .object "NotaryHall$StateList"
  | 6 => .object "NotaryHall$StateList"
  | 7 => .int
  | 8 => .int
  | 9 => .int
  | 10 => .boolean
  | 11 => .int
  | 12 => .int
  | 13 => .int
  | _ => .int
theorem zMT : ∀ a, a < 15 → ∀ b, b < 15 → a ≠ b → (zTT a).2.1 ≠ (zTT b).2.1 := by decide +kernel
theorem zKT : ∀ k, k < 15 → parseFieldDescriptor (zTT k).2.2.1 = some (zYT k) := by decide +kernel
def zTL : u_T := fun k => match k with
  | 0 => ("NotaryHall$StateList", "states", "[LNotaryHall$State;", true)
  | _ => ("NotaryHall$StateList", "count", "I", false)
def zYL : Nat → FieldType := fun k => match k with
  | 0 => .array (.object "NotaryHall$State")
  | _ => .int
theorem zML : ∀ a, a < 2 → ∀ b, b < 2 → a ≠ b → (zTL a).2.1 ≠ (zTL b).2.1 := by decide +kernel
theorem zKL : ∀ k, k < 2 → parseFieldDescriptor (zTL k).2.2.1 = some (zYL k) := by decide +kernel
def zTS : u_T := fun k => match k with
  | 0 => ("NotaryHall$State", "number", "I", true)
  | 1 => ("NotaryHall$State", "kind", "I", true)
  | 2 => ("NotaryHall$State", "a", "I", true)
  | 3 => ("NotaryHall$State", "b", "I", true)
  | 4 => ("NotaryHall$State", "amount", "I", true)
  | _ => ("NotaryHall$State", "boundTo", "I", false)
def zYS : Nat → FieldType := fun k => match k with
  | 0 => .int
  | 1 => .int
  | 2 => .int
  | 3 => .int
  | 4 => .int
  | _ => .int
theorem zMS : ∀ a, a < 6 → ∀ b, b < 6 → a ≠ b → (zTS a).2.1 ≠ (zTS b).2.1 := by decide +kernel
theorem zKS : ∀ k, k < 6 → parseFieldDescriptor (zTS k).2.2.1 = some (zYS k) := by decide +kernel
def zTR : u_T := fun k => match k with
  | 0 => ("NotaryHallModel", "many", "I", false)
  | 1 => ("NotaryHallModel", "begunBy", "[I", false)
  | 2 => ("NotaryHallModel", "notaryOf", "[I", false)
  | 3 => ("NotaryHallModel", "fromTime", "[I", false)
  | 4 => ("NotaryHallModel", "untilTime", "[I", false)
  | 5 => ("NotaryHallModel", "stageOf", "[I", false)
  | 6 => ("NotaryHallModel", "hasty", "[Z", false)
  | 7 => ("NotaryHallModel", "signed", "[I", false)
  | 8 => ("NotaryHallModel", "verdictOf", "[I", false)
  | 9 => ("NotaryHallModel", "inputs", "[I", false)
  | 10 => ("NotaryHallModel", "outputs", "[I", false)
  | 11 => ("NotaryHallModel", "input", "[I", false)
  | 12 => ("NotaryHallModel", "kindOf", "[I", false)
  | 13 => ("NotaryHallModel", "first", "[I", false)
  | 14 => ("NotaryHallModel", "second", "[I", false)
  | 15 => ("NotaryHallModel", "amountOf", "[I", false)
  | 16 => ("NotaryHallModel", "boundTo", "[I", false)
  | 17 => ("NotaryHallModel", "usedBy", "[I", false)
  | 18 => ("NotaryHallModel", "knows", "[I", false)
  | 19 => ("NotaryHallModel", "decided", "[I", false)
  | 20 => ("NotaryHallModel", "fetches", "[I", false)
  | 21 => ("NotaryHallModel", "declines", "[Z", false)
  | 22 => ("NotaryHallModel", "waiting", "[I", false)
  | 23 => ("NotaryHallModel", "waits", "I", false)
  | 24 => ("NotaryHallModel", "clock", "I", false)
  | 25 => ("NotaryHallModel", "before", "[Z", false)
  | _ => ("NotaryHallModel", "mix", "[I", false)
def zYR : Nat → FieldType := fun k => match k with
  | 0 => .int
  | 1 => .array .int
  | 2 => .array .int
  | 3 => .array .int
  | 4 => .array .int
  | 5 => .array .int
  | 6 => .array .boolean
  | 7 => .array .int
  | 8 => .array .int
  | 9 => .array .int
  | 10 => .array .int
  | 11 => .array .int
  | 12 => .array .int
  | 13 => .array .int
  | 14 => .array .int
  | 15 => .array .int
  | 16 => .array .int
  | 17 => .array .int
  | 18 => .array .int
  | 19 => .array .int
  | 20 => .array .int
  | 21 => .array .boolean
  | 22 => .array .int
  | 23 => .int
  | 24 => .int
  | 25 => .array .boolean
  | _ => .array .int
theorem zMR : ∀ a, a < 27 → ∀ b, b < 27 → a ≠ b → (zTR a).2.1 ≠ (zTR b).2.1 := by decide +kernel
theorem zKR : ∀ k, k < 27 → parseFieldDescriptor (zTR k).2.2.1 = some (zYR k) := by decide +kernel
abbrev z_cl : List vw_C := [("NotaryHall", zTH, 8), ("NotaryHall$Node", zTN, 4), ("NotaryHall$Mailbox", zTB, 2), ("NotaryHall$Transaction", zTT, 15), ("NotaryHall$StateList", zTL, 2), ("NotaryHall$State", zTS, 6), ("NotaryHallModel", zTR, 27)]
def z_ws : List Cond := lw_tbl.filter goodWord
theorem z_in {i : Nat} {w : Cond} (h : lw_tbl[i]? = some w) (hg : goodWord w = true) : w ∈ z_ws := List.mem_filter.mpr ⟨List.mem_of_getElem? h, hg⟩
theorem z_good (w : Cond) (h : w ∈ z_ws) : (w.onTables && w.keeps) = true ∨ ∃ ty, w = .arrayClass ty := good_of_word (List.mem_filter.mp h).2
def z_tys (cA : Nat → ClassId) : List (ClassId × FieldType) := [(cA 0, .int), (cA 1, .boolean), (cA 2, .object "NotaryHall$Transaction"), (cA 3, .object "NotaryHall$State"), (cA 4, .object "NotaryHall$Node")]
def z_ao : List String := ["NotaryHall$Transaction", "NotaryHall$State", "NotaryHall$Node"]
def z_nw : List (String × Nat × MethodName × String) := [("NotaryHall$Node", 9, ⟨"NotaryHall", "bit", "(I)I"⟩, "NotaryHall"), ("NotaryHall$Transaction", 46, ⟨"NotaryHall", "bit", "(I)I"⟩, "NotaryHall"), ("NotaryHall$Transaction", 65, ⟨"NotaryHall", "has", "(II)Z"⟩, "NotaryHall")]
theorem zLH : ∀ w ∈ u_ws "NotaryHall" zTH 8, w ∈ z_ws := by decide +kernel
theorem zLN : ∀ w ∈ u_ws "NotaryHall$Node" zTN 4, w ∈ z_ws := by decide +kernel
theorem zLB : ∀ w ∈ u_ws "NotaryHall$Mailbox" zTB 2, w ∈ z_ws := by decide +kernel
theorem zLT : ∀ w ∈ u_ws "NotaryHall$Transaction" zTT 15, w ∈ z_ws := by decide +kernel
theorem zLL : ∀ w ∈ u_ws "NotaryHall$StateList" zTL 2, w ∈ z_ws := by decide +kernel
theorem zLS : ∀ w ∈ u_ws "NotaryHall$State" zTS 6, w ∈ z_ws := by decide +kernel
theorem zLR : ∀ w ∈ u_ws "NotaryHallModel" zTR 27, w ∈ z_ws := by decide +kernel
end
section
-- own rows: stores that keep the size of the heap, new cells at the heap's end
section
variable {p : Program} {l : Launch} {e : Env} {R : Room} {s : State} {m : MethodId} {args : Array Value} {below : List Frame} {meth : Method} {c : Code} {H H0 : Heap} {locs : List Loc} {cells slots : Nat} {Q : State → Prop}
variable {cc : ByteArray} {pc : Nat} {ls : Array Slot} {rest : List Value} {D : va_G} {cl : List vw_C} {tys : List (ClassId × FieldType)} {ws : va_W} {A : Nat → Prop} {a : Nat}
theorem z_put (hexec : p.tables.exec = Jvm.exec) (hb : c.code = cc) {own ref C : String} {T : u_T} {N ci index : Nat} {Ts : List Cond} (hts : ∀ w ∈ Ts, w.before args s = true) (hin : ∀ w ∈ u_ws C T N, w ∈ Ts) (ty0 : Nat → FieldType) (hty : ∀ k, k < N → parseFieldDescriptor (T k).2.2.1 = some (ty0 k)) (hnm : ∀ a, a < N → ∀ b, b < N → a ≠ b → (T a).2.1 ≠ (T b).2.1) (hown : s.vm.findClass own = some m.cls) (hK : va_K D cl tys s) (hP : va_P D cl ws H) (hD : va_D A ws) (hS0 : va_S A H0 H locs) (q0 : Nat) {fs : List Value} (he : ws[q0]? = some (a, .inr (ci, fs))) (hc : cl[ci]? = some (C, T, N)) (k : Nat) (hk : k < N) (hlink : (Cond.fieldLink own index ref (T k).2.1 (T k).2.2.1).before args s = true) (hsame : ∀ x, s.fieldFound? (T k).1 (T k).2.1 (T k).2.2.1 = some x → s.fieldFound? ref (T k).2.1 (T k).2.2.1 = some x) (hfin : (T k).2.2.2 = false) {ty : FieldType} {v : Value} (hd : parseFieldDescriptor (T k).2.2.1 = some ty) (hn : narrow ty v = v) (hfit : fits ty v = true) (hl : k < fs.length)
    (hdg : decode cc pc = .ok (.putfield index, 3)) (kk : ∀ (H1 : Heap) (locs1 : List Loc), H1.size = H.size → va_P D cl (ws.set q0 (a, .inr (ci, fs.set k v))) H1 → va_S A H0 H1 locs1 → W p l e R s m args below meth c H1 locs1 cells slots Q (F0 m (pc + 3) ls rest)) : W p l e R s m args below meth c H locs cells slots Q (F0 m pc ls (v :: .ref a :: rest)) := by
  have hap := va_apart (own := own) hts hin ty0 hty hnm hK hc
  obtain ⟨r, h1, cell, q1, q2, q3, q4⟩ := hP q0 _ he
  have hr : r = (C, T, N) := Option.some.inj (h1.symm.trans hc)
  subst hr
  obtain ⟨hS, hfc, kC, hkC, hkind⟩ := hK.1 ci _ hc
  obtain ⟨cf, kf, fi, f, hi, hsl⟩ := hS k hk
  have hlay := hts _ (hin _ (u_in_lay hk))
  unfold u_lay at hlay
  rw [if_neg (by rw [hfin]; decide)] at hlay
  have hst := (u_facts hfc hkC (u_lays hts hin hk) hi).1
  have h6 := u_store hfc hkC hkind hlay hi hd hn hfit
  refine W.putK hexec hb (f := f) ⟨hown, hlink, ⟨_, _, _, hsame _ hi⟩, hst⟩ (by rw [q2]; exact h6) q1 q3 (by rw [hsl]; exact k2_hasslot (q4 k hk)) rfl rfl hdg fun H' e1 e2 e3 => ?_
  rw [hsl] at e1 ⊢
  exact kk H' _ e2 (hP.set hD he ⟨_, hc, t_OB.to (V := updV (vp_V fs) k v) ⟨_, e1, q2, q3, t_set q4 hap hk v⟩ (fun j _ => vp_updV_set hl v j)⟩ e3) (hS0.put e2 e3 (hD.2 q0 _ he))
theorem z_putF (hexec : p.tables.exec = Jvm.exec) (hb : c.code = cc) {own ref C : String} {T : u_T} {N ci index : Nat} {Ts : List Cond} (hts : ∀ w ∈ Ts, w.before args s = true) (hin : ∀ w ∈ u_ws C T N, w ∈ Ts) (ty0 : Nat → FieldType) (hty : ∀ k, k < N → parseFieldDescriptor (T k).2.2.1 = some (ty0 k)) (hnm : ∀ a, a < N → ∀ b, b < N → a ≠ b → (T a).2.1 ≠ (T b).2.1) (hown : s.vm.findClass own = some m.cls) (hK : va_K D cl tys s) (hP : va_P D cl ws H) (hD : va_D A ws) (hS0 : va_S A H0 H locs) (q0 : Nat) {fs : List Value} (he : ws[q0]? = some (a, .inr (ci, fs))) (hc : cl[ci]? = some (C, T, N)) (k : Nat) (hk : k < N) (hlink : (Cond.fieldLink own index ref (T k).2.1 (T k).2.2.1).before args s = true) (hsame : ∀ x, s.fieldFound? (T k).1 (T k).2.1 (T k).2.2.1 = some x → s.fieldFound? ref (T k).2.1 (T k).2.2.1 = some x) (hfin : (T k).2.2.2 = true) (hin2 : meth.name = "<init>") (hdecl : (T k).1 = own) {ty : FieldType} {v : Value} (hd : parseFieldDescriptor (T k).2.2.1 = some ty) (hn : narrow ty v = v) (hfit : fits ty v = true) (hl : k < fs.length)
    (hdg : decode cc pc = .ok (.putfield index, 3)) (kk : ∀ (H1 : Heap) (locs1 : List Loc), H1.size = H.size → va_P D cl (ws.set q0 (a, .inr (ci, fs.set k v))) H1 → va_S A H0 H1 locs1 → W p l e R s m args below meth c H1 locs1 cells slots Q (F0 m (pc + 3) ls rest)) : W p l e R s m args below meth c H locs cells slots Q (F0 m pc ls (v :: .ref a :: rest)) := by
  have hap := va_apart (own := own) hts hin ty0 hty hnm hK hc
  obtain ⟨r, h1, cell, q1, q2, q3, q4⟩ := hP q0 _ he
  have hr : r = (C, T, N) := Option.some.inj (h1.symm.trans hc)
  subst hr
  obtain ⟨hS, hfc, kC, hkC, hkind⟩ := hK.1 ci _ hc
  obtain ⟨cf, kf, fi, f, hi, hsl⟩ := hS k hk
  have hlay := hts _ (hin _ (u_in_lay hk))
  unfold u_lay at hlay
  rw [if_pos hfin] at hlay
  have hst := (u_facts hfc hkC (u_lays hts hin hk) hi).1
  have hcf : m.cls = cf := by
    obtain ⟨_, _, c', _, _, _, -, -, hf', -, -, -, hown2, -⟩ := Cond.laysFinal_spec hlay
    have e1 : c' = cf := by have := hi.symm.trans hf'; simp at this; exact this.1.symm
    rw [hdecl] at hown2
    rw [← e1]; exact Option.some.inj (hown.symm.trans hown2)
  have h6 := u_fits hfc hkC hkind (Or.inr hlay) hi hd hn hfit
  refine W.putFinK hexec hb hown hlink (hsame _ hi) hst hcf hin2 (by rw [q2]; exact h6) q1 q3 (by rw [hsl]; exact k2_hasslot (q4 k hk)) rfl rfl hdg fun H' e1 e2 e3 => ?_
  rw [hsl] at e1 ⊢
  exact kk H' _ e2 (hP.set hD he ⟨_, hc, t_OB.to (V := updV (vp_V fs) k v) ⟨_, e1, q2, q3, t_set q4 hap hk v⟩ (fun j _ => vp_updV_set hl v j)⟩ e3) (hS0.put e2 e3 (hD.2 q0 _ he))
theorem z_iast (hexec : p.tables.exec = Jvm.exec) (hb : c.code = cc) (hK : va_K D cl tys s) (hP : va_P D cl ws H) (hD : va_D A ws) (hS : va_S A H0 H locs) (q0 t0 : Nat) {cA : ClassId} {n : Nat} {f : Nat → Int32} (ha : ws[q0]? = some (a, .inl (cA, n, .inl f))) (ht : tys[t0]? = some (cA, .int)) {i : Int32} {x : Int32} (hin : vp_in i n) (hdg : decode cc pc = .ok (.iastore, 1))
    (kk : ∀ (H1 : Heap) (locs1 : List Loc), H1.size = H.size → va_P D cl (ws.set q0 (a, .inl (cA, n, .inl (upd f i.toNatClampNeg x)))) H1 → va_S A H0 H1 locs1 → W p l e R s m args below meth c H1 locs1 cells slots Q (F0 m (pc + 1) ls rest)) : W p l e R s m args below meth c H locs cells slots Q (F0 m pc ls (.int x :: .int i :: .ref a :: rest)) := by
  refine W.iast hexec hb (hP q0 _ ha) ((hK.2 t0 _ ht).1 n (fun j => .int (f j))) (fun q => by cases q) (by show ¬ (i < 0 ∨ (arrV _ _ _).slots.size ≤ _); rw [arrV_size]; exact hin) rfl rfl hdg fun H1 e z oq => ?_
  refine kk H1 _ z (hP.set hD ha ?_ oq) (hS.put z oq (hD.2 q0 _ ha))
  show H1[a]? = some (vp_cell _ _)
  rw [e]
  rw [vp_cell_i, vp_cell_i, arrV_store]
  congr 2
  funext q
  by_cases hq : q = i.toNatClampNeg
  · subst hq
    simp [updV, upd]
  · simp [updV, upd, hq]
theorem z_zast (hexec : p.tables.exec = Jvm.exec) (hb : c.code = cc) (hK : va_K D cl tys s) (hP : va_P D cl ws H) (hD : va_D A ws) (hS : va_S A H0 H locs) (q0 t0 : Nat) {cA : ClassId} {n : Nat} {f : Nat → Int32} (ha : ws[q0]? = some (a, .inl (cA, n, .inl f))) (ht : tys[t0]? = some (cA, .boolean)) {i : Int32} {x : Int32} (hx : narrow .boolean (.int x) = .int x) (hin : vp_in i n) (hdg : decode cc pc = .ok (.bastore, 1))
    (kk : ∀ (H1 : Heap) (locs1 : List Loc), H1.size = H.size → va_P D cl (ws.set q0 (a, .inl (cA, n, .inl (upd f i.toNatClampNeg x)))) H1 → va_S A H0 H1 locs1 → W p l e R s m args below meth c H1 locs1 cells slots Q (F0 m (pc + 1) ls rest)) : W p l e R s m args below meth c H locs cells slots Q (F0 m pc ls (.int x :: .int i :: .ref a :: rest)) := by
  refine W.zast hexec hb (hP q0 _ ha) ((hK.2 t0 _ ht).1 n (fun j => .int (f j))) (fun q => by cases q) (by show ¬ (i < 0 ∨ (arrV _ _ _).slots.size ≤ _); rw [arrV_size]; exact hin) rfl rfl hdg fun H1 e z oq => ?_
  refine kk H1 _ z (hP.set hD ha ?_ oq) (hS.put z oq (hD.2 q0 _ ha))
  show H1[a]? = some (vp_cell _ _)
  rw [e, hx]
  rw [vp_cell_i, vp_cell_i, arrV_store]
  congr 2
  funext q
  by_cases hq : q = i.toNatClampNeg
  · subst hq
    simp [updV, upd]
  · simp [updV, upd, hq]
theorem z_astq (hexec : p.tables.exec = Jvm.exec) (hb : c.code = cc) (hK : va_K D cl tys s) (hP : va_P D cl ws H) (hD : va_D A ws) (hS : va_S A H0 H locs) (q0 t0 qk ci : Nat) {cA : ClassId} {r : vw_C} {n v : Nat} {vs : List Value} {f : Nat → Option Nat} (ha : ws[q0]? = some (a, .inl (cA, n, .inr (.inr (.inr (.inr f)))))) (ht : tys[t0]? = some (cA, .object r.1)) (hv : ws[qk]? = some (v, .inr (ci, vs))) (hc : cl[ci]? = some r) {i : Int32} (hin : vp_in i n) (hdg : decode cc pc = .ok (.aastore, 1))
    (kk : ∀ (H1 : Heap) (locs1 : List Loc), H1.size = H.size → va_P D cl (ws.set q0 (a, .inl (cA, n, .inr (.inr (.inr (.inr (va_up f i.toNatClampNeg (some v)))))))) H1 → va_S A H0 H1 locs1 → W p l e R s m args below meth c H1 locs1 cells slots Q (F0 m (pc + 1) ls rest)) : W p l e R s m args below meth c H locs cells slots Q (F0 m pc ls (.ref v :: .int i :: .ref a :: rest)) := by
  have hlt : i.toNatClampNeg < n := Nat.not_le.mp fun q => hin (Or.inr q)
  have h0 : ¬ i < 0 := fun q => hin (Or.inl q)
  obtain ⟨r', hr', cellV, g1, g2, g3, -⟩ := hP qk _ hv
  have hcls := (hK.1 ci r hc).2
  obtain ⟨kA, comp, k1, k2, k3, -⟩ := (hK.2 t0 _ ht).2
  have hcomp : comp = D.1 ci := Option.some.inj (k3.symm.trans hcls.1)
  subst hcomp
  obtain ⟨kC, hkC, -⟩ := hcls.2
  refine W.aast hexec hb (hP q0 _ ha) (fun q h => by cases h) (fun h => by cases h) k1 k2 rfl hkC ⟨h0, by show _ < (arrV _ _ _).slots.size; rw [arrV_size]; exact hlt⟩ g1 (fun q h => by rw [g3] at h; cases h) (by rw [g2]; exact hkC) (by rw [g2]; exact va_assign hcls) rfl rfl hdg fun H1 e z oq => ?_
  refine kk H1 _ z (hP.set hD ha ?_ oq) (hS.put z oq (hD.2 q0 _ ha))
  show H1[a]? = some (vp_cell _ _)
  rw [e]
  rw [vp_cell_q, vp_cell_q, arrV_store]
  congr 2
  funext q
  by_cases hq : q = i.toNatClampNeg
  · subst hq
    simp [updV, va_up, va_rf]
  · simp [updV, va_up, hq]
theorem z_new (hexec : p.tables.exec = Jvm.exec) (hb : c.code = cc) {own C : String} {T : u_T} {N ci index : Nat} {Ts : List Cond} (hts : ∀ w ∈ Ts, w.before args s = true) (hin : ∀ w ∈ u_ws C T N, w ∈ Ts) (ty : Nat → FieldType) (hty : ∀ k, k < N → parseFieldDescriptor (T k).2.2.1 = some (ty k)) (hown : s.vm.findClass own = some m.cls) (hcl : (Cond.classLink own index C).before args s = true) (hinst : (Cond.instantiable C N).before args s = true) (hini : (Cond.initialized C).before args s = true)
    (hK : va_K D cl tys s) (hP : va_P D cl ws H) (hS : va_S A H0 H locs) (hc : cl[ci]? = some (C, T, N)) {fs : List Value} (hfs : ∀ j, j < N → defaultValue (ty j) = vp_V fs j) (hcells : cells + 1 ≤ R.cells) (hslots : slots + N ≤ R.slots) (hdg : decode cc pc = .ok (.new index, 3))
    (kk : ∀ (H1 : Heap), H1.size = H.size + 1 → va_P D cl (ws ++ [(H.size, .inr (ci, fs))]) H1 → va_S A H0 H1 locs →
      W p l e R s m args below meth c H1 locs (cells + 1) (slots + N) Q (F0 m (pc + 3) ls (.ref H.size :: rest))) : W p l e R s m args below meth c H locs cells slots Q (F0 m pc ls rest) := by
  have hKn := hK.1 ci _ hc
  refine W.newcK hexec hb hown hcl hinst hini rfl hdg hcells hslots hKn.2.1 rfl fun H1 kC hkC e1 z1 o1 => ?_
  have hk : ∀ (k : Nat) (x : Nat × va_E), ws[k]? = some x → H1[x.1]? = H[x.1]? := fun k x hx => o1 x.1 ((hP k x hx).lt)
  refine kk H1 z1 ((hP.kept hk).app (fun k x hx => ?_)) ⟨Nat.le_trans hS.1 (by omega), fun x h1 h2 => (o1 x (Nat.lt_of_lt_of_le h1 hS.1)).trans (hS.2.1 x h1 h2), hS.2.2⟩
  have hz : k < 1 := (List.getElem?_eq_some_iff.mp hx).1
  rw [show k = 0 by omega] at hx
  cases hx
  exact ⟨_, hc, (u_born ty hts hin hKn hkC e1 hty).to hfs⟩
theorem z_newa (hexec : p.tables.exec = Jvm.exec) (hb : c.code = cc) {atype : ArrayType} (harr : (Cond.arrayClass (newarray.typeOf atype)).before args s = true) {ty : FieldType} (hty : newarray.typeOf atype = ty) (hP : va_P D cl ws H) (hS : va_S A H0 H locs)
    {n : Int32} {N' : Nat} {a0 : vp_A} (ha : ∀ cA : ClassId, vp_cell cA a0 = arrV cA N' (fun _ => defaultValue ty)) {cA : ClassId} (hcA : s.vm.findClass ("[" ++ ty.toString) = some cA) (hn : ¬ n < 0) (hN : n.toNatClampNeg = N') (hbytes : N' * componentBytes ty ≤ 536870912) (hcells : cells + 1 ≤ R.cells) (hslots : slots + N' ≤ R.slots) (hdg : decode cc pc = .ok (.newarray atype, 2))
    (kk : ∀ (H1 : Heap), H1.size = H.size + 1 → va_P D cl (ws ++ [(H.size, .inl (cA, a0))]) H1 → va_S A H0 H1 locs →
      W p l e R s m args below meth c H1 locs (cells + 1) (slots + N') Q (F0 m (pc + 2) ls (.ref H.size :: rest))) : W p l e R s m args below meth c H locs cells slots Q (F0 m pc ls (.int n :: rest)) := by
  subst hty
  refine va_newaK hexec hb harr rfl hdg rfl hn hN hbytes hcells hslots rfl fun H1 cA' e1 z1 o1 hAr hNm => ?_
  have hcc : cA' = cA := Option.some.inj (hNm.symm.trans hcA)
  subst hcc
  have hk : ∀ (k : Nat) (x : Nat × va_E), ws[k]? = some x → H1[x.1]? = H[x.1]? := fun k x hx => o1 x.1 ((hP k x hx).lt)
  refine kk H1 z1 ((hP.kept hk).app (fun k x hx => ?_)) ⟨Nat.le_trans hS.1 (by omega), fun x h1 h2 => (o1 x (Nat.lt_of_lt_of_le h1 hS.1)).trans (hS.2.1 x h1 h2), hS.2.2⟩
  have hz : k < 1 := (List.getElem?_eq_some_iff.mp hx).1
  rw [show k = 0 by omega] at hx
  cases hx
  show H1[H.size]? = some (vp_cell _ _)
  rw [ha]
  exact e1
theorem z_newq (hexec : p.tables.exec = Jvm.exec) (hb : c.code = cc) {own C : String} {index : Nat} (hown : s.vm.findClass own = some m.cls) (hclink : (Cond.classLink own index C).before args s = true) (hover : va_AO C s) (hP : va_P D cl ws H) (hS : va_S A H0 H locs)
    {n : Int32} {N' : Nat} {cA : ClassId} (hcA : s.vm.findClass ("[" ++ (FieldType.object C).toString) = some cA) (hn : ¬ n < 0) (hN : n.toNatClampNeg = N') (hbytes : N' * 4 ≤ 536870912) (hcells : cells + 1 ≤ R.cells) (hslots : slots + N' ≤ R.slots) (hdg : decode cc pc = .ok (.anewarray index, 3))
    (kk : ∀ (H1 : Heap), H1.size = H.size + 1 → va_P D cl (ws ++ [(H.size, .inl (cA, N', .inr (.inr (.inr (.inr (fun _ => none))))))]) H1 → va_S A H0 H1 locs →
      W p l e R s m args below meth c H1 locs (cells + 1) (slots + N') Q (F0 m (pc + 3) ls (.ref H.size :: rest))) : W p l e R s m args below meth c H locs cells slots Q (F0 m pc ls (.int n :: rest)) := by
  subst hN
  refine W.anew hexec hb hown hclink (va_AO.use hover) rfl hdg rfl hn hbytes hcells hslots fun cA' kA comp f1 f2 f3 f4 => ?_
  have hcc : cA' = cA := Option.some.inj (f1.symm.trans hcA)
  subst hcc
  generalize hH1 : H.push ({ cls := cA', slots := Array.replicate n.toNatClampNeg .null, vm := .none } : Cell) = H1
  have z1 : H1.size = H.size + 1 := by rw [← hH1, Array.size_push]
  have e1 : H1[H.size]? = some (arrV cA' n.toNatClampNeg (fun _ => .null)) := by rw [← hH1, Array.getElem?_push_size, ← arrV_new]
  have o1 : ∀ q : Nat, q < H.size → H1[q]? = H[q]? := fun q hq => by rw [← hH1, Array.getElem?_push, if_neg (Nat.ne_of_lt hq)]
  have hk : ∀ (k : Nat) (x : Nat × va_E), ws[k]? = some x → H1[x.1]? = H[x.1]? := fun k x hx => o1 x.1 ((hP k x hx).lt)
  refine kk H1 z1 ((hP.kept hk).app (fun k x hx => ?_)) ⟨Nat.le_trans hS.1 (by omega), fun x h1 h2 => (o1 x (Nat.lt_of_lt_of_le h1 hS.1)).trans (hS.2.1 x h1 h2), hS.2.2⟩
  have hz : k < 1 := (List.getElem?_eq_some_iff.mp hx).1
  rw [show k = 0 by omega] at hx
  cases hx
  show H1[H.size]? = some (vp_cell _ _)
  rw [vp_cell_q]
  exact e1
end
-- a machine in between: references count from the base b, the script is .retAddr, an unset local is a float
def z_tv (b sc : Nat) (v : Value) : Value := match v with
  | .int x => .int x
  | .ref k => .ref (b + k)
  | .null => .null
  | .retAddr _ => .ref sc
  | v => v
def z_ta (b : Nat) (x : vp_A) : vp_A := (x.1, match x.2 with
  | .inr (.inr (.inr (.inr f))) => .inr (.inr (.inr (.inr (fun j => (f j).map (fun k => b + k)))))
  | y => y)
def z_te (b sc : Nat) (cA : Nat → ClassId) (e : va_E) : va_E := match e with
  | .inl o => .inl (cA o.1, z_ta b o.2)
  | .inr o => .inr (o.1, o.2.map (z_tv b sc))
def z_tw (b sc : Nat) (cA : Nat → ClassId) (M : List va_E) : va_W := M.mapIdx (fun k e => (b + k, z_te b sc cA e))
theorem z_tw_at {b sc : Nat} {cA : Nat → ClassId} {M : List va_E} {k : Nat} {e : va_E} (h : M[k]? = some e) : (z_tw b sc cA M)[k]? = some (b + k, z_te b sc cA e) := by
  simp [z_tw, h]
theorem z_tw_set {b sc : Nat} {cA : Nat → ClassId} {M : List va_E} {k : Nat} {e : va_E} : (z_tw b sc cA M).set k (b + k, z_te b sc cA e) = z_tw b sc cA (M.set k e) := by
  apply List.ext_getElem?
  intro j
  by_cases hj : k = j
  · subst hj
    by_cases hk : k < M.length
    · simp [z_tw, List.getElem?_set, hk]
    · simp [z_tw, List.getElem?_set, hk]
  · simp [z_tw, List.getElem?_set, hj]
theorem z_tw_app {b sc : Nat} {cA : Nat → ClassId} {M : List va_E} {e : va_E} : z_tw b sc cA M ++ [(b + M.length, z_te b sc cA e)] = z_tw b sc cA (M ++ [e]) := by
  simp [z_tw, List.mapIdx_append]
theorem z_tw_D (b sc : Nat) (cA : Nat → ClassId) (M : List va_E) : va_D (fun q => b ≤ q) (z_tw b sc cA M) := by
  have key : ∀ (k : Nat) (q : Nat × va_E), (z_tw b sc cA M)[k]? = some q → q.1 = b + k := by
    intro k q h
    simp only [z_tw, List.getElem?_mapIdx] at h
    obtain ⟨e, -, rfl⟩ := Option.map_eq_some_iff.mp h
    rfl
  refine ⟨fun i j p q hi hj h => ?_, fun k q h => ?_⟩
  · have h1 := key i p hi
    have h2 := key j q hj
    omega
  · have h1 := key k q h
    show b ≤ q.1
    omega
def z_real (v : Value) : Bool := match v with
  | .int _ => true
  | .ref _ => true
  | .null => true
  | .retAddr _ => true
  | _ => false
theorem z_real_cat {b sc : Nat} {v : Value} (h : z_real v = true) : (z_tv b sc v).category = 1 := by
  cases v <;> first | rfl | (simp [z_real] at h)
def z_L (b sc : Nat) (ls : Array Slot) (n : Nat) (L : List Value) : Prop := ls.size = n ∧ L.length = n ∧ lv_wf ls ∧ ∀ (i : Nat) (v : Value), L[i]? = some v → z_real v = true → ls[i]? = some (.val (z_tv b sc v))
def z_lv (b sc n : Nat) (L : List Value) : List (Nat × Value) := (List.range n).filterMap fun j => match L[j]? with
  | some v => if z_real v = true then some (j, z_tv b sc v) else none
  | none => none
theorem z_lv_mem {b sc n : Nat} {L : List Value} {q : Nat × Value} : q ∈ z_lv b sc n L ↔ ∃ (j : Nat) (v : Value), j < n ∧ L[j]? = some v ∧ z_real v = true ∧ q = (j, z_tv b sc v) := by
  unfold z_lv
  rw [List.mem_filterMap]
  constructor
  · rintro ⟨j, hj, h⟩
    rw [List.mem_range] at hj
    cases hL : L[j]? with
    | none => simp [hL] at h
    | some v =>
      simp only [hL] at h
      by_cases hr : z_real v = true
      · simp only [hr, if_true] at h
        exact ⟨j, v, hj, hL, hr, (Option.some.inj h).symm⟩
      · simp [hr] at h
  · rintro ⟨j, v, hj, hL, hr, rfl⟩
    exact ⟨j, List.mem_range.mpr hj, by simp [hL, hr]⟩
theorem z_L.has {b sc n : Nat} {ls : Array Slot} {L : List Value} (h : z_L b sc ls n L) : lv_has ls n (z_lv b sc n L) := by
  refine ⟨h.1, h.2.2.1, fun q hq => ?_⟩
  obtain ⟨j, v, -, hL, hr, rfl⟩ := z_lv_mem.mp hq
  exact h.2.2.2 j v hL hr
theorem z_L.set {b sc n i : Nat} {ls ls' : Array Slot} {L : List Value} {w v : Value} (h : z_L b sc ls n L) (hw : z_tv b sc v = w) (h' : lv_has ls' n ((i, w) :: (z_lv b sc n L).filter (fun q => !(q.1 == i) && !(q.1 + 1 == i && q.2.category == 2)))) : z_L b sc ls' n (L.set i v) := by
  refine ⟨h'.1, by rw [List.length_set]; exact h.2.1, h'.2.1, fun j x hj hr => ?_⟩
  by_cases hi : i = j
  · subst hi
    by_cases hl : i < L.length
    · rw [List.getElem?_set_self hl] at hj
      cases hj
      rw [hw]
      exact h'.2.2 (i, w) List.mem_cons_self
    · rw [List.getElem?_eq_none (by rw [List.length_set]; omega)] at hj
      cases hj
  · rw [List.getElem?_set_ne hi] at hj
    have hjn : j < n := by rw [← h.2.1]; exact (List.getElem?_eq_some_iff.mp hj).1
    refine h'.2.2 (j, z_tv b sc x) (List.mem_cons_of_mem _ (List.mem_filter.mpr ⟨z_lv_mem.mpr ⟨j, x, hjn, hj, hr, rfl⟩, ?_⟩))
    have h1 : ¬ j = i := fun e => hi e.symm
    simp [h1, z_real_cat hr]
/-- the words that are not kept by themselves: links to a nest mate's methods, arrays over a class -/
def z_Wd (U : State) : Prop := (∀ q ∈ z_nw, va_Nw (.methodLinkNest q.1 q.2.1 q.2.2.1 q.2.2.2) U) ∧ ∀ C ∈ z_ao, va_AO C U
theorem z_Wd.moved {s U : State} (hW : s.WarmedH U.vm) (h : z_Wd s) : z_Wd U := ⟨fun q hq => va_Nw.warmM hW (h.1 q hq), fun C hC => va_AO.moved hW.alike (h.2 C hC)⟩
theorem z_Wd.same {s U : State} (hW : s.vm = U.vm) (h : z_Wd s) : z_Wd U := ⟨fun q hq => va_Nw.same rfl hW (h.1 q hq), fun C hC => va_AO.moved (by rw [hW]; exact Vm.Alike.refl _) (h.2 C hC)⟩
def z_Cx (Y : z_MD) (p : Program) (s : State) (m : MethodId) (args : Array Value) (meth : Method) (c : Code) (b sc : Nat) (D : va_G) (cA : Nat → ClassId) : Prop :=
  p.tables.exec = Jvm.exec ∧ c.code = Y.2.1 ∧ c.maxLocals = Y.2.2.1 ∧ s.vm.findClass Y.1.cls = some m.cls ∧ (∀ w ∈ z_ws, w.before args s = true) ∧ va_K D z_cl (z_tys cA) s ∧ z_Wd s ∧ meth.name = Y.1.name ∧ (Y.2.2.2.2.1 ≠ 0 → va_X sc Y.2.2.2.2.1 Y.2.2.2.2.2 s s.heap ∧ sc < s.heap.size ∧ ¬ b ≤ sc) ∧ b ≤ s.heap.size
def z_Hy (Y : z_MD) (d : Nat × Nat) (kc ks : Nat) (L : List Value) (M : List va_E) (p : Program) (R : Room) (s : State) (m : MethodId) (args : Array Value) (meth : Method) (c : Code) (b sc : Nat) (D : va_G) (cA : Nat → ClassId) (H : Heap) (locs : List Loc) (cells slots : Nat) (ls : Array Slot) : Prop :=
  z_Cx Y p s m args meth c b sc D cA ∧ (d.1 ≤ R.frames ∧ d.2 ≤ R.locals ∧ cells + kc ≤ R.cells ∧ slots + ks ≤ R.slots) ∧ va_P D z_cl (z_tw b sc cA M) H ∧ H.size = b + M.length ∧ va_S (fun q => b ≤ q) s.heap H locs ∧ z_L b sc ls Y.2.2.1 L
/-- a method's end at pc, with the answer r -/
def z_re (Y : z_MD) (pc : Nat) (r : Option Value) : Prop := match r with
  | none => decode Y.2.1 pc = .ok (.return_, 1) ∧ Y.2.2.2.1 = none
  | some v => (∃ (x : Int32) (ty : FieldType), v = .int x ∧ decode Y.2.1 pc = .ok (.ireturn, 1) ∧ Y.2.2.2.1 = some ty ∧ narrow ty (.int x) = .int x) ∨ (∃ C : String, (v = .null ∨ ∃ k, v = .ref k) ∧ decode Y.2.1 pc = .ok (.areturn, 1) ∧ Y.2.2.2.1 = some (.object C))
def z_Rt (Y : z_MD) (Q : Option Value → List va_E → Prop) (p : Program) (l : Launch) (e : Env) (R : Room) (s : State) (m : MethodId) (args : Array Value) (below : List Frame) (meth : Method) (c : Code) (b sc : Nat) (D : va_G) (cA : Nat → ClassId) (Qm : State → Prop) : Prop :=
  ∀ (r : Option Value) (M : List va_E) (H : Heap) (locs : List Loc) (cells slots pc : Nat) (ls : Array Slot), Q r M → va_P D z_cl (z_tw b sc cA M) H → H.size = b + M.length → va_S (fun q => b ≤ q) s.heap H locs → cells ≤ R.cells → slots ≤ R.slots → z_re Y pc r → W p l e R s m args below meth c H locs cells slots Qm (F0 m pc ls (r.toList.map (z_tv b sc)))
/-- from pc, with the locals L, the stack S and the cells M, the method Y comes to its end with Q; d calls deep at most, kc cells of ks slots at most are new -/
def z_Ev (Y : z_MD) (d : Nat × Nat) (kc ks pc : Nat) (L S : List Value) (M : List va_E) (Q : Option Value → List va_E → Prop) : Prop :=
  ∀ (p : Program) (l : Launch) (e : Env) (R : Room) (s : State) (m : MethodId) (args : Array Value) (below : List Frame) (meth : Method) (c : Code) (b sc : Nat) (D : va_G) (cA : Nat → ClassId) (H : Heap) (locs : List Loc) (cells slots : Nat) (ls : Array Slot) (Qm : State → Prop),
    z_Hy Y d kc ks L M p R s m args meth c b sc D cA H locs cells slots ls → z_Rt Y Q p l e R s m args below meth c b sc D cA Qm → W p l e R s m args below meth c H locs cells slots Qm (F0 m pc ls (S.map (z_tv b sc)))
def z_Pc (b sc : Nat) (D : va_G) (cA : Nat → ClassId) (As : List Value) (M : List va_E) : Array Value → State → Prop := fun a U => a = (As.map (z_tv b sc)).toArray ∧ va_P D z_cl (z_tw b sc cA M) U.heap ∧ U.heap.size = b + M.length ∧ va_K D z_cl (z_tys cA) U ∧ z_Wd U
def z_Qc (b sc : Nat) (D : va_G) (cA : Nat → ClassId) (Q : Option Value → List va_E → Prop) : Array Value → State → Outcome → State → Prop := fun _ st o t => ∃ (r : Option Value) (M : List va_E), o = .returned (r.map (z_tv b sc)) ∧ Q r M ∧ va_P D z_cl (z_tw b sc cA M) t.heap ∧ t.heap.size = b + M.length ∧ va_F (fun q => b ≤ q) st t
/-- a contract: the method Y at the arguments As and the cells M returns, and Q -/
def z_Sp (Y : z_MD) (d : Nat × Nat) (mc ms : Nat) (As : List Value) (M : List va_E) (Q : Option Value → List va_E → Prop) : Prop :=
  ∀ (l : Launch) (b sc : Nat) (D : va_G) (cA : Nat → ClassId), Met l Y.1 (Cond.code Y.1 Y.2.1 Y.2.2.1 Y.2.2.2.1 :: z_ws) { frames := d.1, cells := mc, slots := ms, locals := d.2 } (z_Pc b sc D cA As M) (z_Qc b sc D cA Q) mc ms (fun q => b ≤ q)
theorem z_blind (b sc : Nat) (D : va_G) (cA : Nat → ClassId) (As : List Value) (M : List va_E) : FrameBlind (z_Pc b sc D cA As M) := by
  intro a U g mk h
  obtain ⟨h1, h2, h3, h4, h5⟩ := h
  exact ⟨h1, h2, h3, va_K.moved (u := U) (U := U.calling g mk a) (Vm.Alike.refl U.vm) h4, z_Wd.same (U := U.calling g mk a) rfl h5⟩
theorem z_entry_args (b sc : Nat) : ∀ (As : List Value) (k : Nat), As.all z_real = true → ∀ (i : Nat) (v : Value), As[i]? = some v → (k + i, z_tv b sc v) ∈ lv_args k (As.map (z_tv b sc)) := by
  intro As
  induction As with
  | nil => intro k _ i v h; simp at h
  | cons a t ih =>
    intro k hr i v h
    simp only [List.all_cons, Bool.and_eq_true] at hr
    have hc : (z_tv b sc a).category = 1 := z_real_cat hr.1
    simp only [List.map_cons, lv_args, hc]
    cases i with
    | zero =>
      simp at h
      subst h
      exact List.mem_cons_self
    | succ i =>
      have := ih (k + 1) hr.2 i v (by simpa using h)
      rw [show k + (i + 1) = k + 1 + i by omega]
      exact List.mem_cons_of_mem _ (by simpa using this)
theorem z_entry_len (b sc : Nat) : ∀ (As : List Value), As.all z_real = true → (lg_sl (As.map (z_tv b sc))).length = As.length := by
  intro As
  induction As with
  | nil => intro _; rfl
  | cons a t ih =>
    intro hr
    simp only [List.all_cons, Bool.and_eq_true] at hr
    have hc : (z_tv b sc a).category = 1 := z_real_cat hr.1
    have := ih hr.2
    unfold lg_sl at this ⊢
    simp only [List.map_cons, List.flatMap_cons, hc, List.length_append, this]
    simp
    omega
theorem z_Sp_of {Y : z_MD} {d : Nat × Nat} {mc ms : Nat} {As L : List Value} {M : List va_E} {Q : Option Value → List va_E → Prop} (hn : plainName Y.1.cls = true) (hX : Y.2.2.2.2.1 = 0) (hr : As.all z_real = true) (hL : As ++ List.replicate (Y.2.2.1 - As.length) (.float 0) = L) (hlen : As.length ≤ Y.2.2.1)
    (h : z_Ev Y d mc ms 0 L [] M Q) : z_Sp Y d mc ms As M Q := by
  intro l b sc D cA
  refine Met.ofW (cc := Y.2.1) (maxL := Y.2.2.1) (ret := Y.2.2.2.1) hn rfl ?_
  intro p e s m args below meth c s₁ B hml hv
  obtain ⟨rfl, hP, hz, hK, hW⟩ := hv
  have hts := atoms_spec (ws := Cond.code Y.1 Y.2.1 Y.2.2.1 Y.2.2.2.1 :: z_ws) B.pre
  have hown : s.vm.findClass Y.1.cls = some m.cls := findClass_of_methodNamed B.named
  have hin : meth.name = Y.1.name := (name_of_methodNamed B.named B.method).1
  have hlocks := B.notSynchronized
  have hret := B.returns
  have hS : va_S (fun q => b ≤ q) s.heap s.heap [] := va_S.rf
  have hl := lv_entry (As.map (z_tv b sc)) (n := Y.2.2.1) (by rw [z_entry_len b sc As hr]; exact hlen)
  rw [lg_entry_eq]
  generalize (lg_sl (As.map (z_tv b sc)) ++ List.replicate (Y.2.2.1 - (lg_sl (As.map (z_tv b sc))).length) Slot.unset).toArray = ls at hl ⊢
  have hLL : z_L b sc ls Y.2.2.1 L := by
    refine ⟨hl.1, by rw [← hL]; simp; omega, hl.2.1, fun i v hi hv => ?_⟩
    rw [← hL] at hi
    by_cases hlt : i < As.length
    · rw [List.getElem?_append_left hlt] at hi
      have := hl.2.2 _ (z_entry_args b sc As 0 hr i v hi)
      simpa using this
    · rw [List.getElem?_append_right (by omega)] at hi
      have h2 := List.mem_of_getElem? hi
      rw [List.mem_replicate] at h2
      rw [h2.2] at hv
      cases hv
  refine h p l e _ s m _ below meth c b sc D cA s.heap [] 0 0 ls _ ⟨⟨B.exec, B.bytes, hml, hown, fun w hw => hts w (List.mem_cons_of_mem _ hw), hK, hW, hin, fun h => absurd hX h, by omega⟩, ⟨Nat.le_refl _, Nat.le_refl _, Nat.le_of_eq (Nat.zero_add _), Nat.le_of_eq (Nat.zero_add _)⟩, hP, hz, hS, hLL⟩ ?_
  intro r M' H locs cells slots pc ls' hQ hP' hz' hS' hc hs hre
  refine W.widen (k := mc) (n := ms) hc hs ?_
  have hq : ∀ (o : Option Value), o = r.map (z_tv b sc) → ∀ t : State, t.heap = H → s.WarmedH t.vm → z_Qc b sc D cA Q ((As.map (z_tv b sc)).toArray) s (.returned o) t := by
    intro o ho t ht _
    exact ⟨r, M', by rw [ho], hQ, by rw [ht]; exact hP', by rw [ht]; exact hz', hS'.F ht⟩
  cases r with
  | none =>
    obtain ⟨h1, h2⟩ := hre
    exact W.vret B.exec B.bytes (hret.trans h2) (hq none rfl) hS'.2.2 h1
  | some v =>
    rcases hre with ⟨x, ty, rfl, h1, h2, h3⟩ | ⟨C, hv, h1, h2⟩
    · exact W.zret B.exec B.bytes (hret.trans h2) h3 (hq _ rfl) hS'.2.2 h1
    · refine W.aret B.exec B.bytes (hret.trans h2) (Or.inl ⟨C, rfl⟩) ?_ (hq _ rfl) hS'.2.2 h1
      rcases hv with rfl | ⟨k, rfl⟩
      · exact Or.inl rfl
      · exact Or.inr ⟨_, rfl⟩
end
section
section
variable {Y : z_MD} {d : Nat × Nat} {kc ks pc : Nat} {L S : List Value} {M : List va_E} {Q : Option Value → List va_E → Prop}
theorem ev_iadd {q : Nat} {x y : Int32} (hd : decode Y.2.1 pc = .ok (.iadd, 1)) (hq : pc + 1 = q) (k : z_Ev Y d kc ks q L (.int (x + y) :: S) M Q) : z_Ev Y d kc ks pc L (.int y :: .int x :: S) M Q := by
  subst hq
  intro p l e R s m args below meth c b sc D cA H locs cells slots ls Qm h hr
  exact lv_iadd h.1.1 h.1.2.1 hd (k p l e R s m args below meth c b sc D cA H locs cells slots ls Qm h hr)
theorem ev_isub {q : Nat} {x y : Int32} (hd : decode Y.2.1 pc = .ok (.isub, 1)) (hq : pc + 1 = q) (k : z_Ev Y d kc ks q L (.int (x - y) :: S) M Q) : z_Ev Y d kc ks pc L (.int y :: .int x :: S) M Q := by
  subst hq
  intro p l e R s m args below meth c b sc D cA H locs cells slots ls Qm h hr
  exact lv_isub h.1.1 h.1.2.1 hd (k p l e R s m args below meth c b sc D cA H locs cells slots ls Qm h hr)
theorem ev_imul {q : Nat} {x y : Int32} (hd : decode Y.2.1 pc = .ok (.imul, 1)) (hq : pc + 1 = q) (k : z_Ev Y d kc ks q L (.int (x * y) :: S) M Q) : z_Ev Y d kc ks pc L (.int y :: .int x :: S) M Q := by
  subst hq
  intro p l e R s m args below meth c b sc D cA H locs cells slots ls Qm h hr
  exact lv_imul h.1.1 h.1.2.1 hd (k p l e R s m args below meth c b sc D cA H locs cells slots ls Qm h hr)
theorem ev_iand {q : Nat} {x y : Int32} (hd : decode Y.2.1 pc = .ok (.iand, 1)) (hq : pc + 1 = q) (k : z_Ev Y d kc ks q L (.int (x &&& y) :: S) M Q) : z_Ev Y d kc ks pc L (.int y :: .int x :: S) M Q := by
  subst hq
  intro p l e R s m args below meth c b sc D cA H locs cells slots ls Qm h hr
  exact lv_iand h.1.1 h.1.2.1 hd (k p l e R s m args below meth c b sc D cA H locs cells slots ls Qm h hr)
theorem ev_ior {q : Nat} {x y : Int32} (hd : decode Y.2.1 pc = .ok (.ior, 1)) (hq : pc + 1 = q) (k : z_Ev Y d kc ks q L (.int (x ||| y) :: S) M Q) : z_Ev Y d kc ks pc L (.int y :: .int x :: S) M Q := by
  subst hq
  intro p l e R s m args below meth c b sc D cA H locs cells slots ls Qm h hr
  exact lv_ior h.1.1 h.1.2.1 hd (k p l e R s m args below meth c b sc D cA H locs cells slots ls Qm h hr)
theorem ev_ixor {q : Nat} {x y : Int32} (hd : decode Y.2.1 pc = .ok (.ixor, 1)) (hq : pc + 1 = q) (k : z_Ev Y d kc ks q L (.int (x ^^^ y) :: S) M Q) : z_Ev Y d kc ks pc L (.int y :: .int x :: S) M Q := by
  subst hq
  intro p l e R s m args below meth c b sc D cA H locs cells slots ls Qm h hr
  exact lv_ixor h.1.1 h.1.2.1 hd (k p l e R s m args below meth c b sc D cA H locs cells slots ls Qm h hr)
theorem ev_ishl {q : Nat} {x y : Int32} (hd : decode Y.2.1 pc = .ok (.ishl, 1)) (hq : pc + 1 = q) (k : z_Ev Y d kc ks q L (.int (x <<< (y &&& 31)) :: S) M Q) : z_Ev Y d kc ks pc L (.int y :: .int x :: S) M Q := by
  subst hq
  intro p l e R s m args below meth c b sc D cA H locs cells slots ls Qm h hr
  exact lv_ishl h.1.1 h.1.2.1 hd (k p l e R s m args below meth c b sc D cA H locs cells slots ls Qm h hr)
theorem ev_ishr {q : Nat} {x y : Int32} (hd : decode Y.2.1 pc = .ok (.ishr, 1)) (hq : pc + 1 = q) (k : z_Ev Y d kc ks q L (.int (x >>> (y &&& 31)) :: S) M Q) : z_Ev Y d kc ks pc L (.int y :: .int x :: S) M Q := by
  subst hq
  intro p l e R s m args below meth c b sc D cA H locs cells slots ls Qm h hr
  exact lv_ishr h.1.1 h.1.2.1 hd (k p l e R s m args below meth c b sc D cA H locs cells slots ls Qm h hr)
theorem ev_idiv {q : Nat} {x y : Int32} (hd : decode Y.2.1 pc = .ok (.idiv, 1)) (hne : ¬ y = 0) (hq : pc + 1 = q) (k : z_Ev Y d kc ks q L (.int (x / y) :: S) M Q) : z_Ev Y d kc ks pc L (.int y :: .int x :: S) M Q := by
  subst hq
  intro p l e R s m args below meth c b sc D cA H locs cells slots ls Qm h hr
  exact lv_idiv h.1.1 h.1.2.1 hd hne (k p l e R s m args below meth c b sc D cA H locs cells slots ls Qm h hr)
theorem ev_irem {q : Nat} {x y : Int32} (hd : decode Y.2.1 pc = .ok (.irem, 1)) (hne : ¬ y = 0) (hq : pc + 1 = q) (k : z_Ev Y d kc ks q L (.int (x - x / y * y) :: S) M Q) : z_Ev Y d kc ks pc L (.int y :: .int x :: S) M Q := by
  subst hq
  intro p l e R s m args below meth c b sc D cA H locs cells slots ls Qm h hr
  exact lv_irem h.1.1 h.1.2.1 hd hne (k p l e R s m args below meth c b sc D cA H locs cells slots ls Qm h hr)
theorem ev_iushr {q : Nat} {x y v : Int32} (hd : decode Y.2.1 pc = .ok (.iushr, 1)) (hv : (x.toUInt32 >>> (y.toUInt32 &&& Int32.toUInt32 31)).toInt32 = v) (hq : pc + 1 = q) (k : z_Ev Y d kc ks q L (.int v :: S) M Q) : z_Ev Y d kc ks pc L (.int y :: .int x :: S) M Q := by
  subst hq
  intro p l e R s m args below meth c b sc D cA H locs cells slots ls Qm h hr
  exact lv_iushr h.1.1 h.1.2.1 hd hv (k p l e R s m args below meth c b sc D cA H locs cells slots ls Qm h hr)
theorem ev_ineg {q : Nat} {x : Int32} (hd : decode Y.2.1 pc = .ok (.ineg, 1)) (hq : pc + 1 = q) (k : z_Ev Y d kc ks q L (.int (-x) :: S) M Q) : z_Ev Y d kc ks pc L (.int x :: S) M Q := by
  subst hq
  intro p l e R s m args below meth c b sc D cA H locs cells slots ls Qm h hr
  exact lv_ineg h.1.1 h.1.2.1 hd (k p l e R s m args below meth c b sc D cA H locs cells slots ls Qm h hr)
theorem ev_iconst {q : Nat} {n : Int} {v : Int32} (hd : decode Y.2.1 pc = .ok (.iconst n, 1)) (hv : Int32.ofInt n = v) (hq : pc + 1 = q) (k : z_Ev Y d kc ks q L (.int v :: S) M Q) : z_Ev Y d kc ks pc L S M Q := by
  subst hq
  intro p l e R s m args below meth c b sc D cA H locs cells slots ls Qm h hr
  exact lv_iconst h.1.1 h.1.2.1 hd hv (k p l e R s m args below meth c b sc D cA H locs cells slots ls Qm h hr)
theorem ev_bipush {q : Nat} {n : Int} {v : Int32} (hd : decode Y.2.1 pc = .ok (.bipush n, 2)) (hv : (Int8.ofInt n).toInt32 = v) (hq : pc + 2 = q) (k : z_Ev Y d kc ks q L (.int v :: S) M Q) : z_Ev Y d kc ks pc L S M Q := by
  subst hq
  intro p l e R s m args below meth c b sc D cA H locs cells slots ls Qm h hr
  exact lv_bipush h.1.1 h.1.2.1 hd hv (k p l e R s m args below meth c b sc D cA H locs cells slots ls Qm h hr)
theorem ev_sipush {q : Nat} {n : Int} {v : Int32} (hd : decode Y.2.1 pc = .ok (.sipush n, 3)) (hv : (Int16.ofInt n).toInt32 = v) (hq : pc + 3 = q) (k : z_Ev Y d kc ks q L (.int v :: S) M Q) : z_Ev Y d kc ks pc L S M Q := by
  subst hq
  intro p l e R s m args below meth c b sc D cA H locs cells slots ls Qm h hr
  exact lv_sipush h.1.1 h.1.2.1 hd hv (k p l e R s m args below meth c b sc D cA H locs cells slots ls Qm h hr)
theorem ev_ldc {q : Nat} {idx : Nat} {v : Int32} (hd : decode Y.2.1 pc = .ok (.ldc idx, 2)) (hw : Cond.constant Y.1.cls idx v ∈ z_ws) (hq : pc + 2 = q) (k : z_Ev Y d kc ks q L (.int v :: S) M Q) : z_Ev Y d kc ks pc L S M Q := by
  subst hq
  intro p l e R s m args below meth c b sc D cA H locs cells slots ls Qm h hr
  exact lv_ldc h.1.1 h.1.2.1 h.1.2.2.2.1 (h.1.2.2.2.2.1 _ hw) hd (k p l e R s m args below meth c b sc D cA H locs cells slots ls Qm h hr)
theorem ev_dup {q : Nat} {v : Value} (hd : decode Y.2.1 pc = .ok (.dup, 1)) (hv : z_real v = true) (hq : pc + 1 = q) (k : z_Ev Y d kc ks q L (v :: v :: S) M Q) : z_Ev Y d kc ks pc L (v :: S) M Q := by
  subst hq
  intro p l e R s m args below meth c b sc D cA H locs cells slots ls Qm h hr
  exact lv_dup h.1.1 h.1.2.1 hd (z_real_cat hv) (k p l e R s m args below meth c b sc D cA H locs cells slots ls Qm h hr)
theorem ev_pop {q : Nat} {v : Value} (hd : decode Y.2.1 pc = .ok (.pop, 1)) (hv : z_real v = true) (hq : pc + 1 = q) (k : z_Ev Y d kc ks q L S M Q) : z_Ev Y d kc ks pc L (v :: S) M Q := by
  subst hq
  intro p l e R s m args below meth c b sc D cA H locs cells slots ls Qm h hr
  exact lv_pop h.1.1 h.1.2.1 hd (z_real_cat hv) (k p l e R s m args below meth c b sc D cA H locs cells slots ls Qm h hr)
theorem ev_dup_x1 {q : Nat} {v w : Value} (hd : decode Y.2.1 pc = .ok (.dup_x1, 1)) (hv : z_real v = true) (hw : z_real w = true) (hq : pc + 1 = q) (k : z_Ev Y d kc ks q L (v :: w :: v :: S) M Q) : z_Ev Y d kc ks pc L (v :: w :: S) M Q := by
  subst hq
  intro p l e R s m args below meth c b sc D cA H locs cells slots ls Qm h hr
  exact lv_dup_x1 h.1.1 h.1.2.1 hd (z_real_cat hv) (z_real_cat hw) (k p l e R s m args below meth c b sc D cA H locs cells slots ls Qm h hr)
theorem ev_dup_x2 {q : Nat} {v w u : Value} (hd : decode Y.2.1 pc = .ok (.dup_x2, 1)) (hv : z_real v = true) (hw : z_real w = true) (hu : z_real u = true) (hq : pc + 1 = q) (k : z_Ev Y d kc ks q L (v :: w :: u :: v :: S) M Q) : z_Ev Y d kc ks pc L (v :: w :: u :: S) M Q := by
  subst hq
  intro p l e R s m args below meth c b sc D cA H locs cells slots ls Qm h hr
  exact lv_dup_x2 h.1.1 h.1.2.1 hd (z_real_cat hv) (z_real_cat hw) (z_real_cat hu) (k p l e R s m args below meth c b sc D cA H locs cells slots ls Qm h hr)
theorem ev_goto {q t : Nat} {off : Int} (hd : decode Y.2.1 pc = .ok (.goto off, 3)) (ht : (pc : Int) + off = (t : Int)) (hq : t = q) (k : z_Ev Y d kc ks q L S M Q) : z_Ev Y d kc ks pc L S M Q := by
  subst hq
  intro p l e R s m args below meth c b sc D cA H locs cells slots ls Qm h hr
  exact lv_goto h.1.1 h.1.2.1 hd ht (k p l e R s m args below meth c b sc D cA H locs cells slots ls Qm h hr)
theorem ev_iload {q : Nat} {i : Nat} {x : Int32} (hd : decode Y.2.1 pc = .ok (.iload i, 2)) (hl : L[i]? = some (.int x)) (hq : pc + 2 = q) (k : z_Ev Y d kc ks q L (.int x :: S) M Q) : z_Ev Y d kc ks pc L S M Q := by
  subst hq
  intro p l e R s m args below meth c b sc D cA H locs cells slots ls Qm h hr
  exact lv_iload h.1.1 h.1.2.1 hd (h.2.2.2.2.2.2.2.2 _ _ hl rfl) (k p l e R s m args below meth c b sc D cA H locs cells slots ls Qm h hr)
theorem ev_iload_n {q : Nat} {i : Fin 4} (j : Nat) {x : Int32} (hd : decode Y.2.1 pc = .ok (.iload_n i, 1)) (hj : (i : Nat) = j) (hl : L[j]? = some (.int x)) (hq : pc + 1 = q) (k : z_Ev Y d kc ks q L (.int x :: S) M Q) : z_Ev Y d kc ks pc L S M Q := by
  subst hq
  intro p l e R s m args below meth c b sc D cA H locs cells slots ls Qm h hr
  exact lv_iload_n h.1.1 h.1.2.1 hd hj (h.2.2.2.2.2.2.2.2 _ _ hl rfl) (k p l e R s m args below meth c b sc D cA H locs cells slots ls Qm h hr)
theorem ev_aload {q : Nat} {i : Nat} {x : Nat} (hd : decode Y.2.1 pc = .ok (.aload i, 2)) (hl : L[i]? = some (.ref x)) (hq : pc + 2 = q) (k : z_Ev Y d kc ks q L (.ref x :: S) M Q) : z_Ev Y d kc ks pc L S M Q := by
  subst hq
  intro p l e R s m args below meth c b sc D cA H locs cells slots ls Qm h hr
  exact lv_aload h.1.1 h.1.2.1 hd (h.2.2.2.2.2.2.2.2 _ _ hl rfl) (k p l e R s m args below meth c b sc D cA H locs cells slots ls Qm h hr)
theorem ev_aload_n {q : Nat} {i : Fin 4} (j : Nat) {x : Nat} (hd : decode Y.2.1 pc = .ok (.aload_n i, 1)) (hj : (i : Nat) = j) (hl : L[j]? = some (.ref x)) (hq : pc + 1 = q) (k : z_Ev Y d kc ks q L (.ref x :: S) M Q) : z_Ev Y d kc ks pc L S M Q := by
  subst hq
  intro p l e R s m args below meth c b sc D cA H locs cells slots ls Qm h hr
  exact lv_aload_n h.1.1 h.1.2.1 hd hj (h.2.2.2.2.2.2.2.2 _ _ hl rfl) (k p l e R s m args below meth c b sc D cA H locs cells slots ls Qm h hr)
theorem ev_aloadN {q : Nat} {i : Nat} (hd : decode Y.2.1 pc = .ok (.aload i, 2)) (hl : L[i]? = some .null) (hq : pc + 2 = q) (k : z_Ev Y d kc ks q L (.null :: S) M Q) : z_Ev Y d kc ks pc L S M Q := by
  subst hq
  intro p l e R s m args below meth c b sc D cA H locs cells slots ls Qm h hr
  exact lv_aloadN h.1.1 h.1.2.1 hd (h.2.2.2.2.2.2.2.2 _ _ hl rfl) (k p l e R s m args below meth c b sc D cA H locs cells slots ls Qm h hr)
theorem ev_aload_nN {q : Nat} {i : Fin 4} (j : Nat) (hd : decode Y.2.1 pc = .ok (.aload_n i, 1)) (hj : (i : Nat) = j) (hl : L[j]? = some .null) (hq : pc + 1 = q) (k : z_Ev Y d kc ks q L (.null :: S) M Q) : z_Ev Y d kc ks pc L S M Q := by
  subst hq
  intro p l e R s m args below meth c b sc D cA H locs cells slots ls Qm h hr
  exact lv_aload_nN h.1.1 h.1.2.1 hd hj (h.2.2.2.2.2.2.2.2 _ _ hl rfl) (k p l e R s m args below meth c b sc D cA H locs cells slots ls Qm h hr)
theorem ev_aload_nS {q : Nat} {i : Fin 4} (j : Nat) {x : Nat} (hd : decode Y.2.1 pc = .ok (.aload_n i, 1)) (hj : (i : Nat) = j) (hl : L[j]? = some (.retAddr x)) (hq : pc + 1 = q) (k : z_Ev Y d kc ks q L (.retAddr x :: S) M Q) : z_Ev Y d kc ks pc L S M Q := by
  subst hq
  intro p l e R s m args below meth c b sc D cA H locs cells slots ls Qm h hr
  exact lv_aload_n h.1.1 h.1.2.1 hd hj (h.2.2.2.2.2.2.2.2 _ _ hl rfl) (k p l e R s m args below meth c b sc D cA H locs cells slots ls Qm h hr)
theorem ev_istore {q : Nat} {i : Nat} {x : Int32} {L' : List Value} (hd : decode Y.2.1 pc = .ok (.istore i, 2)) (hi : i < Y.2.2.1) (hL : L.set i (.int x) = L') (hq : pc + 2 = q) (k : z_Ev Y d kc ks q L' S M Q) : z_Ev Y d kc ks pc L (.int x :: S) M Q := by
  subst hq
  subst hL
  intro p l e R s m args below meth c b sc D cA H locs cells slots ls Qm h hr
  refine lv_istore h.1.1 h.1.2.1 hd h.2.2.2.2.2.has hi rfl fun ls' hl' => ?_
  exact k p l e R s m args below meth c b sc D cA H locs cells slots ls' Qm ⟨h.1, h.2.1, h.2.2.1, h.2.2.2.1, h.2.2.2.2.1, h.2.2.2.2.2.set rfl hl'⟩ hr
theorem ev_istore_n {q : Nat} {i : Fin 4} (j : Nat) {x : Int32} {L' : List Value} (hd : decode Y.2.1 pc = .ok (.istore_n i, 1)) (hj : (i : Nat) = j) (hi : j < Y.2.2.1) (hL : L.set j (.int x) = L') (hq : pc + 1 = q) (k : z_Ev Y d kc ks q L' S M Q) : z_Ev Y d kc ks pc L (.int x :: S) M Q := by
  subst hq
  subst hL
  intro p l e R s m args below meth c b sc D cA H locs cells slots ls Qm h hr
  refine lv_istore_n h.1.1 h.1.2.1 hd hj h.2.2.2.2.2.has hi rfl fun ls' hl' => ?_
  exact k p l e R s m args below meth c b sc D cA H locs cells slots ls' Qm ⟨h.1, h.2.1, h.2.2.1, h.2.2.2.1, h.2.2.2.2.1, h.2.2.2.2.2.set rfl hl'⟩ hr
theorem ev_astore {q : Nat} {i : Nat} {x : Nat} {L' : List Value} (hd : decode Y.2.1 pc = .ok (.astore i, 2)) (hi : i < Y.2.2.1) (hL : L.set i (.ref x) = L') (hq : pc + 2 = q) (k : z_Ev Y d kc ks q L' S M Q) : z_Ev Y d kc ks pc L (.ref x :: S) M Q := by
  subst hq
  subst hL
  intro p l e R s m args below meth c b sc D cA H locs cells slots ls Qm h hr
  refine lv_astore h.1.1 h.1.2.1 hd h.2.2.2.2.2.has hi rfl fun ls' hl' => ?_
  exact k p l e R s m args below meth c b sc D cA H locs cells slots ls' Qm ⟨h.1, h.2.1, h.2.2.1, h.2.2.2.1, h.2.2.2.2.1, h.2.2.2.2.2.set rfl hl'⟩ hr
theorem ev_astore_n {q : Nat} {i : Fin 4} (j : Nat) {x : Nat} {L' : List Value} (hd : decode Y.2.1 pc = .ok (.astore_n i, 1)) (hj : (i : Nat) = j) (hi : j < Y.2.2.1) (hL : L.set j (.ref x) = L') (hq : pc + 1 = q) (k : z_Ev Y d kc ks q L' S M Q) : z_Ev Y d kc ks pc L (.ref x :: S) M Q := by
  subst hq
  subst hL
  intro p l e R s m args below meth c b sc D cA H locs cells slots ls Qm h hr
  refine lv_astore_n h.1.1 h.1.2.1 hd hj h.2.2.2.2.2.has hi rfl fun ls' hl' => ?_
  exact k p l e R s m args below meth c b sc D cA H locs cells slots ls' Qm ⟨h.1, h.2.1, h.2.2.1, h.2.2.2.1, h.2.2.2.2.1, h.2.2.2.2.2.set rfl hl'⟩ hr
theorem ev_astoreN {q : Nat} {i : Nat}  {L' : List Value} (hd : decode Y.2.1 pc = .ok (.astore i, 2)) (hi : i < Y.2.2.1) (hL : L.set i (.null) = L') (hq : pc + 2 = q) (k : z_Ev Y d kc ks q L' S M Q) : z_Ev Y d kc ks pc L (.null :: S) M Q := by
  subst hq
  subst hL
  intro p l e R s m args below meth c b sc D cA H locs cells slots ls Qm h hr
  refine lv_astoreN h.1.1 h.1.2.1 hd h.2.2.2.2.2.has hi rfl fun ls' hl' => ?_
  exact k p l e R s m args below meth c b sc D cA H locs cells slots ls' Qm ⟨h.1, h.2.1, h.2.2.1, h.2.2.2.1, h.2.2.2.2.1, h.2.2.2.2.2.set rfl hl'⟩ hr
theorem ev_astore_nN {q : Nat} {i : Fin 4} (j : Nat)  {L' : List Value} (hd : decode Y.2.1 pc = .ok (.astore_n i, 1)) (hj : (i : Nat) = j) (hi : j < Y.2.2.1) (hL : L.set j (.null) = L') (hq : pc + 1 = q) (k : z_Ev Y d kc ks q L' S M Q) : z_Ev Y d kc ks pc L (.null :: S) M Q := by
  subst hq
  subst hL
  intro p l e R s m args below meth c b sc D cA H locs cells slots ls Qm h hr
  refine lv_astore_nN h.1.1 h.1.2.1 hd hj h.2.2.2.2.2.has hi rfl fun ls' hl' => ?_
  exact k p l e R s m args below meth c b sc D cA H locs cells slots ls' Qm ⟨h.1, h.2.1, h.2.2.1, h.2.2.2.1, h.2.2.2.2.1, h.2.2.2.2.2.set rfl hl'⟩ hr
theorem ev_iinc {q i : Nat} {n : Int} {x v : Int32} {L' : List Value} (hd : decode Y.2.1 pc = .ok (.iinc i n, 3)) (hl : L[i]? = some (.int x)) (hi : i < Y.2.2.1) (hv : x + Int32.ofInt n = v) (hL : L.set i (.int v) = L') (hq : pc + 3 = q) (k : z_Ev Y d kc ks q L' S M Q) : z_Ev Y d kc ks pc L S M Q := by
  subst hq
  subst hL
  intro p l e R s m args below meth c b sc D cA H locs cells slots ls Qm h hr
  have hm : (i, Value.int x) ∈ z_lv b sc Y.2.2.1 L := z_lv_mem.mpr ⟨i, .int x, hi, hl, rfl, rfl⟩
  obtain ⟨k0, hk0⟩ := List.getElem?_of_mem hm
  refine lv_iinc h.1.1 h.1.2.1 hd h.2.2.2.2.2.has hk0 hv hi rfl fun ls' hl' => ?_
  exact k p l e R s m args below meth c b sc D cA H locs cells slots ls' Qm ⟨h.1, h.2.1, h.2.2.1, h.2.2.2.1, h.2.2.2.2.1, h.2.2.2.2.2.set rfl hl'⟩ hr
theorem ev_if_eq {q t : Nat} {x : Int32} {off : Int} (hd : decode Y.2.1 pc = .ok (.ifCond .eq off, 3)) (ht : (pc : Int) + off = (t : Int)) (hq : pc + 3 = q) (kt : x = 0 → z_Ev Y d kc ks t L S M Q) (kf : ¬ x = 0 → z_Ev Y d kc ks q L S M Q) : z_Ev Y d kc ks pc L (.int x :: S) M Q := by
  subst hq
  intro p l e R s m args below meth c b sc D cA H locs cells slots ls Qm h hr
  exact lv_if_eq h.1.1 h.1.2.1 hd ht (fun z => kt z p l e R s m args below meth c b sc D cA H locs cells slots ls Qm h hr) (fun z => kf z p l e R s m args below meth c b sc D cA H locs cells slots ls Qm h hr)
theorem ev_icmp_eq {q t : Nat} {x y : Int32} {off : Int} (hd : decode Y.2.1 pc = .ok (.if_icmp .eq off, 3)) (ht : (pc : Int) + off = (t : Int)) (hq : pc + 3 = q) (kt : x = y → z_Ev Y d kc ks t L S M Q) (kf : ¬ x = y → z_Ev Y d kc ks q L S M Q) : z_Ev Y d kc ks pc L (.int y :: .int x :: S) M Q := by
  subst hq
  intro p l e R s m args below meth c b sc D cA H locs cells slots ls Qm h hr
  exact lv_icmp_eq h.1.1 h.1.2.1 hd ht (fun z => kt z p l e R s m args below meth c b sc D cA H locs cells slots ls Qm h hr) (fun z => kf z p l e R s m args below meth c b sc D cA H locs cells slots ls Qm h hr)
theorem ev_if_ne {q t : Nat} {x : Int32} {off : Int} (hd : decode Y.2.1 pc = .ok (.ifCond .ne off, 3)) (ht : (pc : Int) + off = (t : Int)) (hq : pc + 3 = q) (kt : ¬ x = 0 → z_Ev Y d kc ks t L S M Q) (kf : x = 0 → z_Ev Y d kc ks q L S M Q) : z_Ev Y d kc ks pc L (.int x :: S) M Q := by
  subst hq
  intro p l e R s m args below meth c b sc D cA H locs cells slots ls Qm h hr
  exact lv_if_ne h.1.1 h.1.2.1 hd ht (fun z => kt z p l e R s m args below meth c b sc D cA H locs cells slots ls Qm h hr) (fun z => kf z p l e R s m args below meth c b sc D cA H locs cells slots ls Qm h hr)
theorem ev_icmp_ne {q t : Nat} {x y : Int32} {off : Int} (hd : decode Y.2.1 pc = .ok (.if_icmp .ne off, 3)) (ht : (pc : Int) + off = (t : Int)) (hq : pc + 3 = q) (kt : ¬ x = y → z_Ev Y d kc ks t L S M Q) (kf : x = y → z_Ev Y d kc ks q L S M Q) : z_Ev Y d kc ks pc L (.int y :: .int x :: S) M Q := by
  subst hq
  intro p l e R s m args below meth c b sc D cA H locs cells slots ls Qm h hr
  exact lv_icmp_ne h.1.1 h.1.2.1 hd ht (fun z => kt z p l e R s m args below meth c b sc D cA H locs cells slots ls Qm h hr) (fun z => kf z p l e R s m args below meth c b sc D cA H locs cells slots ls Qm h hr)
theorem ev_if_lt {q t : Nat} {x : Int32} {off : Int} (hd : decode Y.2.1 pc = .ok (.ifCond .lt off, 3)) (ht : (pc : Int) + off = (t : Int)) (hq : pc + 3 = q) (kt : x < 0 → z_Ev Y d kc ks t L S M Q) (kf : ¬ x < 0 → z_Ev Y d kc ks q L S M Q) : z_Ev Y d kc ks pc L (.int x :: S) M Q := by
  subst hq
  intro p l e R s m args below meth c b sc D cA H locs cells slots ls Qm h hr
  exact lv_if_lt h.1.1 h.1.2.1 hd ht (fun z => kt z p l e R s m args below meth c b sc D cA H locs cells slots ls Qm h hr) (fun z => kf z p l e R s m args below meth c b sc D cA H locs cells slots ls Qm h hr)
theorem ev_icmp_lt {q t : Nat} {x y : Int32} {off : Int} (hd : decode Y.2.1 pc = .ok (.if_icmp .lt off, 3)) (ht : (pc : Int) + off = (t : Int)) (hq : pc + 3 = q) (kt : x < y → z_Ev Y d kc ks t L S M Q) (kf : ¬ x < y → z_Ev Y d kc ks q L S M Q) : z_Ev Y d kc ks pc L (.int y :: .int x :: S) M Q := by
  subst hq
  intro p l e R s m args below meth c b sc D cA H locs cells slots ls Qm h hr
  exact lv_icmp_lt h.1.1 h.1.2.1 hd ht (fun z => kt z p l e R s m args below meth c b sc D cA H locs cells slots ls Qm h hr) (fun z => kf z p l e R s m args below meth c b sc D cA H locs cells slots ls Qm h hr)
theorem ev_if_ge {q t : Nat} {x : Int32} {off : Int} (hd : decode Y.2.1 pc = .ok (.ifCond .ge off, 3)) (ht : (pc : Int) + off = (t : Int)) (hq : pc + 3 = q) (kt : 0 ≤ x → z_Ev Y d kc ks t L S M Q) (kf : ¬ 0 ≤ x → z_Ev Y d kc ks q L S M Q) : z_Ev Y d kc ks pc L (.int x :: S) M Q := by
  subst hq
  intro p l e R s m args below meth c b sc D cA H locs cells slots ls Qm h hr
  exact lv_if_ge h.1.1 h.1.2.1 hd ht (fun z => kt z p l e R s m args below meth c b sc D cA H locs cells slots ls Qm h hr) (fun z => kf z p l e R s m args below meth c b sc D cA H locs cells slots ls Qm h hr)
theorem ev_icmp_ge {q t : Nat} {x y : Int32} {off : Int} (hd : decode Y.2.1 pc = .ok (.if_icmp .ge off, 3)) (ht : (pc : Int) + off = (t : Int)) (hq : pc + 3 = q) (kt : y ≤ x → z_Ev Y d kc ks t L S M Q) (kf : ¬ y ≤ x → z_Ev Y d kc ks q L S M Q) : z_Ev Y d kc ks pc L (.int y :: .int x :: S) M Q := by
  subst hq
  intro p l e R s m args below meth c b sc D cA H locs cells slots ls Qm h hr
  exact lv_icmp_ge h.1.1 h.1.2.1 hd ht (fun z => kt z p l e R s m args below meth c b sc D cA H locs cells slots ls Qm h hr) (fun z => kf z p l e R s m args below meth c b sc D cA H locs cells slots ls Qm h hr)
theorem ev_if_gt {q t : Nat} {x : Int32} {off : Int} (hd : decode Y.2.1 pc = .ok (.ifCond .gt off, 3)) (ht : (pc : Int) + off = (t : Int)) (hq : pc + 3 = q) (kt : 0 < x → z_Ev Y d kc ks t L S M Q) (kf : ¬ 0 < x → z_Ev Y d kc ks q L S M Q) : z_Ev Y d kc ks pc L (.int x :: S) M Q := by
  subst hq
  intro p l e R s m args below meth c b sc D cA H locs cells slots ls Qm h hr
  exact lv_if_gt h.1.1 h.1.2.1 hd ht (fun z => kt z p l e R s m args below meth c b sc D cA H locs cells slots ls Qm h hr) (fun z => kf z p l e R s m args below meth c b sc D cA H locs cells slots ls Qm h hr)
theorem ev_icmp_gt {q t : Nat} {x y : Int32} {off : Int} (hd : decode Y.2.1 pc = .ok (.if_icmp .gt off, 3)) (ht : (pc : Int) + off = (t : Int)) (hq : pc + 3 = q) (kt : y < x → z_Ev Y d kc ks t L S M Q) (kf : ¬ y < x → z_Ev Y d kc ks q L S M Q) : z_Ev Y d kc ks pc L (.int y :: .int x :: S) M Q := by
  subst hq
  intro p l e R s m args below meth c b sc D cA H locs cells slots ls Qm h hr
  exact lv_icmp_gt h.1.1 h.1.2.1 hd ht (fun z => kt z p l e R s m args below meth c b sc D cA H locs cells slots ls Qm h hr) (fun z => kf z p l e R s m args below meth c b sc D cA H locs cells slots ls Qm h hr)
theorem ev_if_le {q t : Nat} {x : Int32} {off : Int} (hd : decode Y.2.1 pc = .ok (.ifCond .le off, 3)) (ht : (pc : Int) + off = (t : Int)) (hq : pc + 3 = q) (kt : x ≤ 0 → z_Ev Y d kc ks t L S M Q) (kf : ¬ x ≤ 0 → z_Ev Y d kc ks q L S M Q) : z_Ev Y d kc ks pc L (.int x :: S) M Q := by
  subst hq
  intro p l e R s m args below meth c b sc D cA H locs cells slots ls Qm h hr
  exact lv_if_le h.1.1 h.1.2.1 hd ht (fun z => kt z p l e R s m args below meth c b sc D cA H locs cells slots ls Qm h hr) (fun z => kf z p l e R s m args below meth c b sc D cA H locs cells slots ls Qm h hr)
theorem ev_icmp_le {q t : Nat} {x y : Int32} {off : Int} (hd : decode Y.2.1 pc = .ok (.if_icmp .le off, 3)) (ht : (pc : Int) + off = (t : Int)) (hq : pc + 3 = q) (kt : x ≤ y → z_Ev Y d kc ks t L S M Q) (kf : ¬ x ≤ y → z_Ev Y d kc ks q L S M Q) : z_Ev Y d kc ks pc L (.int y :: .int x :: S) M Q := by
  subst hq
  intro p l e R s m args below meth c b sc D cA H locs cells slots ls Qm h hr
  exact lv_icmp_le h.1.1 h.1.2.1 hd ht (fun z => kt z p l e R s m args below meth c b sc D cA H locs cells slots ls Qm h hr) (fun z => kf z p l e R s m args below meth c b sc D cA H locs cells slots ls Qm h hr)
theorem ev_ifnonnull {q t : Nat} {x : Nat} {off : Int} (hd : decode Y.2.1 pc = .ok (.ifnonnull off, 3)) (ht : (pc : Int) + off = (t : Int)) (hq : t = q) (k : z_Ev Y d kc ks q L S M Q) : z_Ev Y d kc ks pc L (.ref x :: S) M Q := by
  subst hq
  intro p l e R s m args below meth c b sc D cA H locs cells slots ls Qm h hr
  exact lv_ifnonnull h.1.1 h.1.2.1 hd ht (k p l e R s m args below meth c b sc D cA H locs cells slots ls Qm h hr)
theorem ev_ifnull {q : Nat} {x : Nat} {off : Int} (hd : decode Y.2.1 pc = .ok (.ifnull off, 3)) (hq : pc + 3 = q) (k : z_Ev Y d kc ks q L S M Q) : z_Ev Y d kc ks pc L (.ref x :: S) M Q := by
  subst hq
  intro p l e R s m args below meth c b sc D cA H locs cells slots ls Qm h hr
  exact lv_ifnull h.1.1 h.1.2.1 hd (k p l e R s m args below meth c b sc D cA H locs cells slots ls Qm h hr)
theorem ev_ifnullN {q t : Nat} {off : Int} (hd : decode Y.2.1 pc = .ok (.ifnull off, 3)) (ht : (pc : Int) + off = (t : Int)) (hq : t = q) (k : z_Ev Y d kc ks q L S M Q) : z_Ev Y d kc ks pc L (.null :: S) M Q := by
  subst hq
  intro p l e R s m args below meth c b sc D cA H locs cells slots ls Qm h hr
  exact lv_ifnullN h.1.1 h.1.2.1 hd ht (k p l e R s m args below meth c b sc D cA H locs cells slots ls Qm h hr)
theorem ev_ifnonnullN {q : Nat} {off : Int} (hd : decode Y.2.1 pc = .ok (.ifnonnull off, 3)) (hq : pc + 3 = q) (k : z_Ev Y d kc ks q L S M Q) : z_Ev Y d kc ks pc L (.null :: S) M Q := by
  subst hq
  intro p l e R s m args below meth c b sc D cA H locs cells slots ls Qm h hr
  exact lv_ifnonnullN h.1.1 h.1.2.1 hd (k p l e R s m args below meth c b sc D cA H locs cells slots ls Qm h hr)
theorem ev_tableOut {q t : Nat} {dflt lo hi : Int} {offs : Array Int} {len : Nat} {x : Int32} (hd : decode Y.2.1 pc = .ok (.tableswitch dflt lo hi offs, len)) (hx : x.toInt < lo ∨ hi < x.toInt) (ht : (pc : Int) + dflt = (t : Int)) (hq : t = q) (k : z_Ev Y d kc ks q L S M Q) : z_Ev Y d kc ks pc L (.int x :: S) M Q := by
  subst hq
  intro p l e R s m args below meth c b sc D cA H locs cells slots ls Qm h hr
  exact lv_tableOut h.1.1 h.1.2.1 hd hx ht (k p l e R s m args below meth c b sc D cA H locs cells slots ls Qm h hr)
theorem ev_tableIn {q t : Nat} {dflt lo hi : Int} {offs : Array Int} {len : Nat} {x : Int32} {off : Int} (hd : decode Y.2.1 pc = .ok (.tableswitch dflt lo hi offs, len)) (h1 : ¬ x.toInt < lo) (h2 : ¬ hi < x.toInt) (ho : offs[(x.toInt - lo).toNat]? = some off) (ht : (pc : Int) + off = (t : Int)) (hq : t = q) (k : z_Ev Y d kc ks q L S M Q) : z_Ev Y d kc ks pc L (.int x :: S) M Q := by
  subst hq
  intro p l e R s m args below meth c b sc D cA H locs cells slots ls Qm h hr
  exact lv_tableIn h.1.1 h.1.2.1 hd h1 h2 ho ht (k p l e R s m args below meth c b sc D cA H locs cells slots ls Qm h hr)
theorem ev_lookup {q t : Nat} {dflt : Int} {ps : Array (Int × Int)} {len : Nat} {x : Int32} {off : Int} (hd : decode Y.2.1 pc = .ok (.lookupswitch dflt ps, len)) (hp : (ps.toList.zip (ps.toList.drop 1)).all (fun (a, next) => a.1 < next.1) = true) (ho : Op.lookupswitch.offset ps.toList dflt x.toInt = off) (ht : (pc : Int) + off = (t : Int)) (hq : t = q) (k : z_Ev Y d kc ks q L S M Q) : z_Ev Y d kc ks pc L (.int x :: S) M Q := by
  subst hq
  intro p l e R s m args below meth c b sc D cA H locs cells slots ls Qm h hr
  exact lv_lookup h.1.1 h.1.2.1 hd hp ho ht (k p l e R s m args below meth c b sc D cA H locs cells slots ls Qm h hr)
end
end
section
-- cells
def z_F (own : String) (idx ci j : Nat) : Prop := ∃ (C : String) (T : u_T) (N : Nat), z_cl[ci]? = some (C, T, N) ∧ j < N ∧ (∀ w ∈ u_ws C T N, w ∈ z_ws) ∧ Cond.fieldLink own idx (T j).1 (T j).2.1 (T j).2.2.1 ∈ z_ws
def z_G (own : String) (idx ci j : Nat) (fin : Bool) (ty : FieldType) : Prop := ∃ (C : String) (T : u_T) (N : Nat) (ty0 : Nat → FieldType), z_cl[ci]? = some (C, T, N) ∧ j < N ∧ (∀ w ∈ u_ws C T N, w ∈ z_ws) ∧ Cond.fieldLink own idx (T j).1 (T j).2.1 (T j).2.2.1 ∈ z_ws ∧ (∀ k, k < N → parseFieldDescriptor (T k).2.2.1 = some (ty0 k)) ∧ (∀ a, a < N → ∀ b, b < N → a ≠ b → (T a).2.1 ≠ (T b).2.1) ∧ (T j).2.2.2 = fin ∧ parseFieldDescriptor (T j).2.2.1 = some ty ∧ (T j).1 = C
def z_N (own : String) (idx ci n : Nat) (fs : List Value) : Prop := ∃ (C : String) (T : u_T) (ty0 : Nat → FieldType), z_cl[ci]? = some (C, T, n) ∧ (∀ w ∈ u_ws C T n, w ∈ z_ws) ∧ (∀ k, k < n → parseFieldDescriptor (T k).2.2.1 = some (ty0 k)) ∧ Cond.classLink own idx C ∈ z_ws ∧ Cond.instantiable C n ∈ z_ws ∧ Cond.initialized C ∈ z_ws ∧ (∀ j, j < n → defaultValue (ty0 j) = vp_V fs j) ∧ ∀ b sc : Nat, fs.map (z_tv b sc) = fs
def z_Cl (Y' : z_MD) (n : Nat) : Prop := Cond.code Y'.1 Y'.2.1 Y'.2.2.1 Y'.2.2.2.1 ∈ z_ws ∧ Cond.initialized Y'.1.cls ∈ z_ws ∧ (Y'.1.cls ≠ "java/lang/invoke/MethodHandle" ∧ Y'.1.cls ≠ "java/lang/invoke/VarHandle") ∧ (parseMethodDescriptor Y'.1.desc).map (fun d => d.parameters.length) = some n
theorem z_sum {b sc : Nat} {S : List Value} (h : S.all z_real = true) : ((S.map (z_tv b sc)).map fun v => v.category).sum = S.length := by
  induction S with
  | nil => rfl
  | cons a t ih =>
    simp only [List.all_cons, Bool.and_eq_true] at h
    have hc : (z_tv b sc a).category = 1 := z_real_cat h.1
    simp only [List.map_cons, List.sum_cons, hc, ih h.2, List.length_cons]
    omega
theorem z_ret_map {b sc : Nat} (r : Option Value) (S : List Value) : (r.map (z_tv b sc)).toList ++ S.map (z_tv b sc) = (r.toList ++ S).map (z_tv b sc) := by
  cases r <;> simp
section
variable {p : Program} {l : Launch} {e : Env} {R : Room} {s : State} {m : MethodId} {args : Array Value} {below : List Frame} {meth : Method} {c : Code} {H H0 : Heap} {locs : List Loc} {cells slots : Nat} {Qm : State → Prop}
variable {pc : Nat} {ls : Array Slot} {rest : List Value} {D : va_G} {b sc mc ms : Nat} {cA : Nat → ClassId}
theorem z_cont {Q' : Option Value → List va_E → Prop} {st0 : List Value} {a : Array Value} (hr : va_Run p l e R s m args below meth c H locs cells slots mc ms (F0 m pc ls st0) rest (z_Qc b sc D cA Q' a) (fun q => b ≤ q)) (hS : va_S (fun q => b ≤ q) H0 H locs)
    (kk : ∀ (r : Option Value) (M : List va_E) (H1 : Heap) (locs1 : List Loc), Q' r M → va_P D z_cl (z_tw b sc cA M) H1 → H1.size = b + M.length → va_S (fun q => b ≤ q) H0 H1 locs1 → W p l e R s m args below meth c H1 locs1 (cells + mc) (slots + ms) Qm (F0 m (pc + 3) ls ((r.map (z_tv b sc)).toList ++ rest))) : W p l e R s m args below meth c H locs cells slots Qm (F0 m pc ls st0) := by
  intro T hT X
  obtain ⟨v, st₀, t, T', L, h0, X', hL, e1, e2, ⟨r, M, hv, hq, hP, hz, hz1, hk⟩, st⟩ := hr T hT X
  cases hv
  rw [h0] at hz1 hk
  obtain ⟨t2, a1, b1⟩ := kk r M T'.heap (locs ++ L) hq (by rw [e1]; exact hP) (by rw [e1]; exact hz)
    ⟨Nat.le_trans hS.1 (by rw [e1]; exact hz1), fun q h1 h2 => by rw [e1, hk q (Nat.lt_of_lt_of_le h1 hS.1) h2]; exact hS.2.1 q h1 h2, fun q hq => by
      rcases List.mem_append.mp hq with h | h
      · exact hS.2.2 q h
      · exact hL q h⟩ T' rfl X'
  exact ⟨t2, st t2 a1, b1⟩
theorem z_words {w : List Cond} (hts : ∀ w ∈ z_ws, w.before args s = true) (hw : ∀ x ∈ w, x ∈ z_ws) : ∀ x ∈ w, ∀ (a' : Array Value) (U : State), s.WarmedH U.vm → x.before a' U = true :=
  fun x hx a' U hW => word_at hW (z_good x (hw x hx)) (hts x (hw x hx))
theorem z_callB {Y' : z_MD} {n idx : Nat} {d : Nat × Nat} {own : String} (hY : z_Cl Y' n) (hts : ∀ w ∈ z_ws, w.before args s = true) (hR : d.1 + 1 ≤ R.frames ∧ 8 + (Y'.2.2.1 + 11) + d.2 ≤ R.locals) (hl : Cond.methodLink own idx Y'.1 ∈ z_ws) :
    CallB R s args own idx Y'.1 Y'.2.1 Y'.2.2.1 Y'.2.2.2.1 (Cond.code Y'.1 Y'.2.1 Y'.2.2.1 Y'.2.2.2.1 :: z_ws) { frames := d.1, cells := mc, slots := ms, locals := d.2 } mc ms n := by
  obtain ⟨h1, h2, h3, h4⟩ := hY
  refine ⟨rfl, rfl, hR.1, hR.2, z_words hts ?_, List.mem_cons_self, hts _ h1, hts _ h2, h3, fun sig hs => ?_, hts _ hl⟩
  · intro x hx
    rcases List.mem_cons.mp hx with rfl | hx
    · exact h1
    · exact hx
  · rw [hs] at h4
    exact (Option.some.inj h4).symm
theorem z_callN {Y' : z_MD} {n idx : Nat} {d : Nat × Nat} {own host : String} (hY : z_Cl Y' n) (hts : ∀ w ∈ z_ws, w.before args s = true) (hWd : z_Wd s) (hR : d.1 + 1 ≤ R.frames ∧ 8 + (Y'.2.2.1 + 11) + d.2 ≤ R.locals) (hl : (own, idx, Y'.1, host) ∈ z_nw) :
    va_CN R s args own idx Y'.1 host Y'.2.1 Y'.2.2.1 Y'.2.2.2.1 (Cond.code Y'.1 Y'.2.1 Y'.2.2.1 Y'.2.2.2.1 :: z_ws) { frames := d.1, cells := mc, slots := ms, locals := d.2 } mc ms n := by
  obtain ⟨h1, h2, h3, h4⟩ := hY
  refine ⟨⟨rfl, rfl, hR.1, hR.2, z_words hts ?_, List.mem_cons_self⟩, hts _ h1, hts _ h2, h3, fun sig hs => ?_, va_Nw.use rfl (hWd.1 _ hl)⟩
  · intro x hx
    rcases List.mem_cons.mp hx with rfl | hx
    · exact h1
    · exact hx
  · rw [hs] at h4
    exact (Option.some.inj h4).symm
end
section
variable {Y : z_MD} {d d' : Nat × Nat} {kc ks pc : Nat} {L S : List Value} {M : List va_E} {Q : Option Value → List va_E → Prop}
theorem ev_get {q k ci j idx : Nat} {fs : List Value} {v : Value} (hd : decode Y.2.1 pc = .ok (.getfield idx, 3)) (hF : z_F Y.1.cls idx ci j) (hM : M[k]? = some (.inr (ci, fs))) (hv : fs[j]? = some v) (hq : pc + 3 = q) (kk : z_Ev Y d kc ks q L (v :: S) M Q) : z_Ev Y d kc ks pc L (.ref k :: S) M Q := by
  subst hq
  intro p l e R s m args below meth c b sc D cA H locs cells slots ls Qm h hr
  obtain ⟨C, T, N, hc, hj, hin, hl⟩ := hF
  obtain ⟨⟨hx, hb, hml, hown, hts, hK, -⟩, -, hP, -⟩ := id h
  exact va_get hx hb hts hin hown hK hP k (z_tw_at hM) hc j hj (hts _ hl) (fun x hx => hx) (v := z_tv b sc v) (by rw [List.getElem?_map, hv]; rfl) hd (kk p l e R s m args below meth c b sc D cA H locs cells slots ls Qm h hr)
theorem ev_put {q k ci j idx : Nat} {fs fs' : List Value} {v : Value} {ty : FieldType} {M' : List va_E} (hd : decode Y.2.1 pc = .ok (.putfield idx, 3)) (hF : z_G Y.1.cls idx ci j false ty) (hM : M[k]? = some (.inr (ci, fs))) (hv : ∀ b sc : Nat, narrow ty (z_tv b sc v) = z_tv b sc v ∧ fits ty (z_tv b sc v) = true) (hj : j < fs.length) (hfs : fs.set j v = fs') (hM' : M.set k (.inr (ci, fs')) = M') (hq : pc + 3 = q) (kk : z_Ev Y d kc ks q L S M' Q) : z_Ev Y d kc ks pc L (v :: .ref k :: S) M Q := by
  subst hq
  subst hfs
  subst hM'
  intro p l e R s m args below meth c b sc D cA H locs cells slots ls Qm h hr
  obtain ⟨C, T, N, ty0, hc, hjN, hin, hl, hty, hnm, hfin, hdesc, -⟩ := hF
  obtain ⟨⟨hx, hb, hml, hown, hts, hK, -⟩, -, hP, hz, hS, -⟩ := id h
  refine z_put hx hb hts hin ty0 hty hnm hown hK hP (z_tw_D b sc cA M) hS k (z_tw_at hM) hc j hjN (hts _ hl) (fun x hx => hx) hfin hdesc (hv b sc).1 (hv b sc).2 (by simpa using hj) hd fun H1 locs1 z1 hP1 hS1 => ?_
  have hP2 : va_P D z_cl (z_tw b sc cA (M.set k (.inr (ci, fs.set j v)))) H1 := by
    rw [← z_tw_set]
    show va_P D z_cl ((z_tw b sc cA M).set k (b + k, .inr (ci, (fs.set j v).map (z_tv b sc)))) H1
    rw [List.map_set]
    exact hP1
  exact kk p l e R s m args below meth c b sc D cA H1 locs1 cells slots ls Qm ⟨h.1, h.2.1, hP2, by rw [z1, hz, List.length_set], hS1, h.2.2.2.2.2⟩ hr
theorem ev_putF {q k ci j idx : Nat} {fs fs' : List Value} {v : Value} {ty : FieldType} {M' : List va_E} (hd : decode Y.2.1 pc = .ok (.putfield idx, 3)) (hF : z_G Y.1.cls idx ci j true ty) (hi : Y.1.name = "<init>") (hcl : (z_cl[ci]?).map (fun r => r.1) = some Y.1.cls) (hM : M[k]? = some (.inr (ci, fs))) (hv : ∀ b sc : Nat, narrow ty (z_tv b sc v) = z_tv b sc v ∧ fits ty (z_tv b sc v) = true) (hj : j < fs.length) (hfs : fs.set j v = fs') (hM' : M.set k (.inr (ci, fs')) = M') (hq : pc + 3 = q) (kk : z_Ev Y d kc ks q L S M' Q) : z_Ev Y d kc ks pc L (v :: .ref k :: S) M Q := by
  subst hq
  subst hfs
  subst hM'
  intro p l e R s m args below meth c b sc D cA H locs cells slots ls Qm h hr
  obtain ⟨C, T, N, ty0, hc, hjN, hin, hl, hty, hnm, hfin, hdesc, hC⟩ := hF
  obtain ⟨⟨hx, hb, hml, hown, hts, hK, -, hname, -⟩, -, hP, hz, hS, -⟩ := id h
  have hCY : C = Y.1.cls := by rw [hc] at hcl; exact Option.some.inj hcl
  refine z_putF hx hb hts hin ty0 hty hnm hown hK hP (z_tw_D b sc cA M) hS k (z_tw_at hM) hc j hjN (hts _ hl) (fun x hx => hx) hfin (hname.trans hi) (hC.trans hCY) hdesc (hv b sc).1 (hv b sc).2 (by simpa using hj) hd fun H1 locs1 z1 hP1 hS1 => ?_
  have hP2 : va_P D z_cl (z_tw b sc cA (M.set k (.inr (ci, fs.set j v)))) H1 := by
    rw [← z_tw_set]
    show va_P D z_cl ((z_tw b sc cA M).set k (b + k, .inr (ci, (fs.set j v).map (z_tv b sc)))) H1
    rw [List.map_set]
    exact hP1
  exact kk p l e R s m args below meth c b sc D cA H1 locs1 cells slots ls Qm ⟨h.1, h.2.1, hP2, by rw [z1, hz, List.length_set], hS1, h.2.2.2.2.2⟩ hr
theorem ev_iald {q k n j : Nat} {f : Nat → Int32} {i : Int32} (hd : decode Y.2.1 pc = .ok (.iaload, 1)) (hM : M[k]? = some (.inl (0, n, .inl f))) (hi : vp_in i n) (hj : i.toNatClampNeg = j) (hq : pc + 1 = q) (kk : z_Ev Y d kc ks q L (.int (f j) :: S) M Q) : z_Ev Y d kc ks pc L (.int i :: .ref k :: S) M Q := by
  subst hq
  subst hj
  intro p l e R s m args below meth c b sc D cA H locs cells slots ls Qm h hr
  obtain ⟨⟨hx, hb, hml, hown, hts, hK, -⟩, -, hP, -⟩ := id h
  exact va_iald hx hb hK hP k 0 (z_tw_at hM) rfl hi hd (kk p l e R s m args below meth c b sc D cA H locs cells slots ls Qm h hr)
theorem ev_zald {q k n j : Nat} {f : Nat → Int32} {i : Int32} (hd : decode Y.2.1 pc = .ok (.baload, 1)) (hM : M[k]? = some (.inl (1, n, .inl f))) (hi : vp_in i n) (hj : i.toNatClampNeg = j) (hq : pc + 1 = q) (kk : z_Ev Y d kc ks q L (.int (f j) :: S) M Q) : z_Ev Y d kc ks pc L (.int i :: .ref k :: S) M Q := by
  subst hq
  subst hj
  intro p l e R s m args below meth c b sc D cA H locs cells slots ls Qm h hr
  obtain ⟨⟨hx, hb, hml, hown, hts, hK, -⟩, -, hP, -⟩ := id h
  exact va_zald hx hb hK hP k 1 (z_tw_at hM) rfl hi hd (kk p l e R s m args below meth c b sc D cA H locs cells slots ls Qm h hr)
theorem ev_aald {q k n j t x : Nat} {f : Nat → Option Nat} {i : Int32} (hd : decode Y.2.1 pc = .ok (.aaload, 1)) (hT : ∀ cA, ∃ C, (z_tys cA)[t]? = some (cA t, .object C)) (hM : M[k]? = some (.inl (t, n, .inr (.inr (.inr (.inr f)))))) (hi : vp_in i n) (hj : i.toNatClampNeg = j) (hf : f j = some x) (hq : pc + 1 = q) (kk : z_Ev Y d kc ks q L (.ref x :: S) M Q) : z_Ev Y d kc ks pc L (.int i :: .ref k :: S) M Q := by
  subst hq
  subst hj
  intro p l e R s m args below meth c b sc D cA H locs cells slots ls Qm h hr
  obtain ⟨⟨hx, hb, hml, hown, hts, hK, -⟩, -, hP, -⟩ := id h
  obtain ⟨C, hC⟩ := hT cA
  refine va_aldq hx hb hK hP k t (z_tw_at hM) hC hi hd ?_
  show W p l e R s m args below meth c H locs cells slots Qm (F0 m (pc + 1) ls (va_rf ((f i.toNatClampNeg).map (fun k => b + k)) :: S.map (z_tv b sc)))
  rw [hf]
  exact kk p l e R s m args below meth c b sc D cA H locs cells slots ls Qm h hr
theorem ev_iast {q k n j : Nat} {f : Nat → Int32} {i x : Int32} {M' : List va_E} (hd : decode Y.2.1 pc = .ok (.iastore, 1)) (hM : M[k]? = some (.inl (0, n, .inl f))) (hi : vp_in i n) (hj : i.toNatClampNeg = j) (hM' : M.set k (.inl (0, n, .inl (upd f j x))) = M') (hq : pc + 1 = q) (kk : z_Ev Y d kc ks q L S M' Q) : z_Ev Y d kc ks pc L (.int x :: .int i :: .ref k :: S) M Q := by
  subst hq
  subst hj
  subst hM'
  intro p l e R s m args below meth c b sc D cA H locs cells slots ls Qm h hr
  obtain ⟨⟨hx, hb, hml, hown, hts, hK, -⟩, -, hP, hz, hS, -⟩ := id h
  refine z_iast hx hb hK hP (z_tw_D b sc cA M) hS k 0 (z_tw_at hM) rfl hi hd fun H1 locs1 z1 hP1 hS1 => ?_
  have hP2 : va_P D z_cl (z_tw b sc cA (M.set k (.inl (0, n, .inl (upd f i.toNatClampNeg x))))) H1 := by
    rw [← z_tw_set]
    exact hP1
  exact kk p l e R s m args below meth c b sc D cA H1 locs1 cells slots ls Qm ⟨h.1, h.2.1, hP2, by rw [z1, hz, List.length_set], hS1, h.2.2.2.2.2⟩ hr
theorem ev_zast {q k n j : Nat} {f : Nat → Int32} {i x : Int32} {M' : List va_E} (hd : decode Y.2.1 pc = .ok (.bastore, 1)) (hM : M[k]? = some (.inl (1, n, .inl f))) (hx : narrow .boolean (.int x) = .int x) (hi : vp_in i n) (hj : i.toNatClampNeg = j) (hM' : M.set k (.inl (1, n, .inl (upd f j x))) = M') (hq : pc + 1 = q) (kk : z_Ev Y d kc ks q L S M' Q) : z_Ev Y d kc ks pc L (.int x :: .int i :: .ref k :: S) M Q := by
  subst hq
  subst hj
  subst hM'
  intro p l e R s m args below meth c b sc D cA H locs cells slots ls Qm h hr
  obtain ⟨⟨hx', hb, hml, hown, hts, hK, -⟩, -, hP, hz, hS, -⟩ := id h
  refine z_zast hx' hb hK hP (z_tw_D b sc cA M) hS k 1 (z_tw_at hM) rfl hx hi hd fun H1 locs1 z1 hP1 hS1 => ?_
  have hP2 : va_P D z_cl (z_tw b sc cA (M.set k (.inl (1, n, .inl (upd f i.toNatClampNeg x))))) H1 := by
    rw [← z_tw_set]
    exact hP1
  exact kk p l e R s m args below meth c b sc D cA H1 locs1 cells slots ls Qm ⟨h.1, h.2.1, hP2, by rw [z1, hz, List.length_set], hS1, h.2.2.2.2.2⟩ hr
theorem ev_aast {q k n j t v ci : Nat} {f : Nat → Option Nat} {i : Int32} {vs : List Value} {M' : List va_E} (hd : decode Y.2.1 pc = .ok (.aastore, 1)) (hT : ∀ cA, ∃ r, z_cl[ci]? = some r ∧ (z_tys cA)[t]? = some (cA t, .object r.1)) (hM : M[k]? = some (.inl (t, n, .inr (.inr (.inr (.inr f)))))) (hv : M[v]? = some (.inr (ci, vs))) (hi : vp_in i n) (hj : i.toNatClampNeg = j) (hM' : M.set k (.inl (t, n, .inr (.inr (.inr (.inr (va_up f j (some v))))))) = M') (hq : pc + 1 = q) (kk : z_Ev Y d kc ks q L S M' Q) : z_Ev Y d kc ks pc L (.ref v :: .int i :: .ref k :: S) M Q := by
  subst hq
  subst hj
  subst hM'
  intro p l e R s m args below meth c b sc D cA H locs cells slots ls Qm h hr
  obtain ⟨⟨hx, hb, hml, hown, hts, hK, -⟩, -, hP, hz, hS, -⟩ := id h
  obtain ⟨r, hr1, hr2⟩ := hT cA
  refine z_astq hx hb hK hP (z_tw_D b sc cA M) hS k t v ci (z_tw_at hM) hr2 (z_tw_at hv) hr1 hi hd fun H1 locs1 z1 hP1 hS1 => ?_
  have hfn : va_up (fun j => (f j).map (fun k => b + k)) i.toNatClampNeg (some (b + v)) = fun j => (va_up f i.toNatClampNeg (some v) j).map (fun k => b + k) := by
    funext j
    unfold va_up
    split <;> rfl
  have hP2 : va_P D z_cl (z_tw b sc cA (M.set k (.inl (t, n, .inr (.inr (.inr (.inr (va_up f i.toNatClampNeg (some v))))))))) H1 := by
    rw [← z_tw_set]
    show va_P D z_cl ((z_tw b sc cA M).set k (b + k, .inl (cA t, n, .inr (.inr (.inr (.inr (fun j => (va_up f i.toNatClampNeg (some v) j).map (fun k => b + k)))))))) H1
    rw [← hfn]
    exact hP1
  exact kk p l e R s m args below meth c b sc D cA H1 locs1 cells slots ls Qm ⟨h.1, h.2.1, hP2, by rw [z1, hz, List.length_set], hS1, h.2.2.2.2.2⟩ hr
theorem ev_new {q ci n idx : Nat} {fs : List Value} (hd : decode Y.2.1 pc = .ok (.new idx, 3)) (hN : z_N Y.1.cls idx ci n fs) (hq : pc + 3 = q) (kk : z_Ev Y d kc ks q L (.ref M.length :: S) (M ++ [.inr (ci, fs)]) Q) : z_Ev Y d (kc + 1) (ks + n) pc L S M Q := by
  subst hq
  intro p l e R s m args below meth c b sc D cA H locs cells slots ls Qm h hr
  obtain ⟨C, T, ty0, hc, hin, hty, hcl, hinst, hini, hfs, hst⟩ := hN
  obtain ⟨⟨hx, hb, hml, hown, hts, hK, -⟩, hR, hP, hz, hS, -⟩ := id h
  refine z_new hx hb hts hin ty0 hty hown (hts _ hcl) (hts _ hinst) (hts _ hini) hK hP hS hc hfs (by omega) (by omega) hd fun H1 z1 hP1 hS1 => ?_
  rw [hz] at z1 hP1 ⊢
  have hP2 : va_P D z_cl (z_tw b sc cA (M ++ [.inr (ci, fs)])) H1 := by
    rw [← z_tw_app]
    show va_P D z_cl (z_tw b sc cA M ++ [(b + M.length, .inr (ci, fs.map (z_tv b sc)))]) H1
    rw [hst]
    exact hP1
  exact kk p l e R s m args below meth c b sc D cA H1 locs (cells + 1) (slots + n) ls Qm ⟨h.1, ⟨hR.1, hR.2.1, by omega, by omega⟩, hP2, by rw [z1, List.length_append]; simp; omega, hS1, h.2.2.2.2.2⟩ hr
theorem ev_newi {q n : Nat} {i : Int32} (hd : decode Y.2.1 pc = .ok (.newarray .int, 2)) (hw : Cond.arrayClass .int ∈ z_ws) (hi : i = nI n) (hn : n ≤ 1000) (hq : pc + 2 = q) (kk : z_Ev Y d kc ks q L (.ref M.length :: S) (M ++ [.inl (0, n, .inl (fun _ => 0))]) Q) : z_Ev Y d (kc + 1) (ks + n) pc L (.int i :: S) M Q := by
  subst hq
  subst hi
  intro p l e R s m args below meth c b sc D cA H locs cells slots ls Qm h hr
  obtain ⟨⟨hx, hb, hml, hown, hts, hK, -⟩, hR, hP, hz, hS, -⟩ := id h
  have hcA : s.vm.findClass ("[" ++ FieldType.int.toString) = some (cA 0) := (hK.2 0 (cA 0, .int) rfl).2
  refine z_newa (atype := .int) (ty := .int) (a0 := (n, .inl (fun _ => 0))) hx hb (hts _ hw) rfl hP hS (fun _ => rfl) hcA (nI_pos (by omega)) (nI_clamp (by omega)) (by show n * 4 ≤ _; omega) (by omega) (by omega) hd fun H1 z1 hP1 hS1 => ?_
  rw [hz] at z1 hP1 ⊢
  have hP2 : va_P D z_cl (z_tw b sc cA (M ++ [.inl (0, n, .inl (fun _ => 0))])) H1 := by
    rw [← z_tw_app]
    exact hP1
  exact kk p l e R s m args below meth c b sc D cA H1 locs (cells + 1) (slots + n) ls Qm ⟨h.1, ⟨hR.1, hR.2.1, by omega, by omega⟩, hP2, by rw [z1, List.length_append]; simp; omega, hS1, h.2.2.2.2.2⟩ hr
theorem ev_newz {q n : Nat} {i : Int32} (hd : decode Y.2.1 pc = .ok (.newarray .boolean, 2)) (hw : Cond.arrayClass .boolean ∈ z_ws) (hi : i = nI n) (hn : n ≤ 1000) (hq : pc + 2 = q) (kk : z_Ev Y d kc ks q L (.ref M.length :: S) (M ++ [.inl (1, n, .inl (fun _ => 0))]) Q) : z_Ev Y d (kc + 1) (ks + n) pc L (.int i :: S) M Q := by
  subst hq
  subst hi
  intro p l e R s m args below meth c b sc D cA H locs cells slots ls Qm h hr
  obtain ⟨⟨hx, hb, hml, hown, hts, hK, -⟩, hR, hP, hz, hS, -⟩ := id h
  have hcA : s.vm.findClass ("[" ++ FieldType.boolean.toString) = some (cA 1) := (hK.2 1 (cA 1, .boolean) rfl).2
  refine z_newa (atype := .boolean) (ty := .boolean) (a0 := (n, .inl (fun _ => 0))) hx hb (hts _ hw) rfl hP hS (fun _ => rfl) hcA (nI_pos (by omega)) (nI_clamp (by omega)) (by show n * 1 ≤ _; omega) (by omega) (by omega) hd fun H1 z1 hP1 hS1 => ?_
  rw [hz] at z1 hP1 ⊢
  have hP2 : va_P D z_cl (z_tw b sc cA (M ++ [.inl (1, n, .inl (fun _ => 0))])) H1 := by
    rw [← z_tw_app]
    exact hP1
  exact kk p l e R s m args below meth c b sc D cA H1 locs (cells + 1) (slots + n) ls Qm ⟨h.1, ⟨hR.1, hR.2.1, by omega, by omega⟩, hP2, by rw [z1, List.length_append]; simp; omega, hS1, h.2.2.2.2.2⟩ hr
theorem ev_newq {q n t idx : Nat} {i : Int32} {C : String} (hd : decode Y.2.1 pc = .ok (.anewarray idx, 3)) (hw : Cond.classLink Y.1.cls idx C ∈ z_ws) (hC : C ∈ z_ao) (hT : ∀ cA, (z_tys cA)[t]? = some (cA t, .object C)) (hi : i = nI n) (hn : n ≤ 1000) (hq : pc + 3 = q) (kk : z_Ev Y d kc ks q L (.ref M.length :: S) (M ++ [.inl (t, n, .inr (.inr (.inr (.inr (fun _ => none)))))]) Q) : z_Ev Y d (kc + 1) (ks + n) pc L (.int i :: S) M Q := by
  subst hq
  subst hi
  intro p l e R s m args below meth c b sc D cA H locs cells slots ls Qm h hr
  obtain ⟨⟨hx, hb, hml, hown, hts, hK, hWd, -⟩, hR, hP, hz, hS, -⟩ := id h
  obtain ⟨kA, comp, -, -, -, hcA⟩ := (hK.2 t _ (hT cA)).2
  refine z_newq hx hb hown (hts _ hw) (hWd.2 C hC) hP hS hcA (nI_pos (by omega)) (nI_clamp (by omega)) (by omega) (by omega) (by omega) hd fun H1 z1 hP1 hS1 => ?_
  rw [hz] at z1 hP1 ⊢
  have hP2 : va_P D z_cl (z_tw b sc cA (M ++ [.inl (t, n, .inr (.inr (.inr (.inr (fun _ => none)))))])) H1 := by
    rw [← z_tw_app]
    exact hP1
  exact kk p l e R s m args below meth c b sc D cA H1 locs (cells + 1) (slots + n) ls Qm ⟨h.1, ⟨hR.1, hR.2.1, by omega, by omega⟩, hP2, by rw [z1, List.length_append]; simp; omega, hS1, h.2.2.2.2.2⟩ hr
theorem ev_obj {q k idx : Nat} (hd : decode Y.2.1 pc = .ok (.invokespecial idx, 3)) (hl : Cond.methodLink Y.1.cls idx Lib.objectInit ∈ z_ws) (h1 : Cond.instanceMethod Lib.objectInit ∈ z_ws) (h2 : Cond.code Lib.objectInit ⟨#[0xb1]⟩ 1 none ∈ z_ws) (hS8 : S.length ≤ 8) (hSr : S.all z_real = true) (hdd : 1 ≤ d.1 ∧ 20 ≤ d.2) (hq : pc + 3 = q) (kk : z_Ev Y d kc ks q L S M Q) : z_Ev Y d kc ks pc L (.ref k :: S) M Q := by
  subst hq
  intro p l e R s m args below meth c b sc D cA H locs cells slots ls Qm h hr
  obtain ⟨⟨hx, hb, hml, hown, hts, hK, -⟩, hR, hP, hz, hS, hL⟩ := id h
  refine W.objInit hx hb hown (hts _ hl) (hts _ h1) (hts _ h2) rfl (by rw [hml]; exact hL.1) rfl hd (by omega) ?_ (kk p l e R s m args below meth c b sc D cA H locs cells slots ls Qm h hr)
  rw [z_sum hSr]
  show 2 * 0 + _ + 12 ≤ _
  omega
theorem ev_sld {q k j : Nat} {i : Int32} (hd : decode Y.2.1 pc = .ok (.iaload, 1)) (h0 : Y.2.2.2.2.1 ≠ 0) (hi : vp_in i Y.2.2.2.2.1) (hj : i.toNatClampNeg = j) (hq : pc + 1 = q) (kk : z_Ev Y d kc ks q L (.int (Y.2.2.2.2.2 j) :: S) M Q) : z_Ev Y d kc ks pc L (.int i :: .retAddr k :: S) M Q := by
  subst hq
  subst hj
  intro p l e R s m args below meth c b sc D cA H locs cells slots ls Qm h hr
  obtain ⟨⟨hx, hb, hml, hown, hts, hK, -, -, hX, -⟩, hR, hP, hz, hS, hL⟩ := id h
  obtain ⟨x1, x2, x3⟩ := hX h0
  exact va_sld hx hb x1 x2 x3 hS hi hd (kk p l e R s m args below meth c b sc D cA H locs cells slots ls Qm h hr)
theorem ev_slen {q k : Nat} (hd : decode Y.2.1 pc = .ok (.arraylength, 1)) (h0 : Y.2.2.2.2.1 ≠ 0) (hq : pc + 1 = q) (kk : z_Ev Y d kc ks q L (.int (nI Y.2.2.2.2.1) :: S) M Q) : z_Ev Y d kc ks pc L (.retAddr k :: S) M Q := by
  subst hq
  intro p l e R s m args below meth c b sc D cA H locs cells slots ls Qm h hr
  obtain ⟨⟨hx, hb, hml, hown, hts, hK, -, -, hX, -⟩, hR, hP, hz, hS, hL⟩ := id h
  obtain ⟨x1, x2, x3⟩ := hX h0
  exact va_slen hx hb x1 x2 x3 hS hd (kk p l e R s m args below meth c b sc D cA H locs cells slots ls Qm h hr)
theorem ev_callS {q idx n mc ms : Nat} {Y' : z_MD} {As S0 : List Value} {Q' : Option Value → List va_E → Prop} (hd : decode Y.2.1 pc = .ok (.invokestatic idx, 3)) (hl : Cond.methodLink Y.1.cls idx Y'.1 ∈ z_ws) (hs : Cond.static Y'.1 ∈ z_ws) (hY : z_Cl Y' n) (hn : As.length = n) (hS8 : S.length ≤ 8) (hSr : S.all z_real = true) (hst : As.reverse ++ S = S0) (hq : pc + 3 = q) (hdd : d'.1 + 1 ≤ d.1 ∧ 8 + (Y'.2.2.1 + 11) + d'.2 ≤ d.2) (hM : z_Sp Y' d' mc ms As M Q') (kk : ∀ r M', Q' r M' → z_Ev Y d kc ks q L (r.toList ++ S) M' Q) : z_Ev Y d (mc + kc) (ms + ks) pc L S0 M Q := by
  subst hq
  subst hst
  intro p l e R s m args below meth c b sc D cA H locs cells slots ls Qm h hr
  obtain ⟨⟨hx, hb, hml, hown, hts, hK, hWd, -, hX, -⟩, hR, hP, hz, hS, hL⟩ := id h
  refine z_cont (va_runS (As := As.map (z_tv b sc)) (rest := S.map (z_tv b sc)) ⟨hx, hb, hml, hown, hts⟩ (hM l b sc D cA) ⟨z_callB hY hts ⟨Nat.le_trans hdd.1 hR.1, Nat.le_trans hdd.2 hR.2.1⟩ hl, hts _ hs⟩ ⟨z_blind b sc D cA As M, fun U hU hW => ⟨rfl, by rw [hU]; exact hP, by rw [hU]; exact hz, va_K.moved hW.alike hK, hWd.moved hW⟩⟩ rfl (by simpa using hn) hL.1 (by simp) (lv_room (by rw [z_sum hSr]; exact hS8)) hd ⟨by omega, by omega⟩) hS fun r M' H1 locs1 hQ hP1 hz1 hS1 => ?_
  rw [z_ret_map]
  exact kk r M' hQ p l e R s m args below meth c b sc D cA H1 locs1 (cells + mc) (slots + ms) ls Qm ⟨h.1, ⟨hR.1, hR.2.1, by omega, by omega⟩, hP1, hz1, hS1, hL⟩ hr
theorem ev_callSN {q idx n mc ms : Nat} {host : String} {Y' : z_MD} {As S0 : List Value} {Q' : Option Value → List va_E → Prop} (hd : decode Y.2.1 pc = .ok (.invokestatic idx, 3)) (hl : (Y.1.cls, idx, Y'.1, host) ∈ z_nw) (hs : Cond.static Y'.1 ∈ z_ws) (hY : z_Cl Y' n) (hn : As.length = n) (hS8 : S.length ≤ 8) (hSr : S.all z_real = true) (hst : As.reverse ++ S = S0) (hq : pc + 3 = q) (hdd : d'.1 + 1 ≤ d.1 ∧ 8 + (Y'.2.2.1 + 11) + d'.2 ≤ d.2) (hM : z_Sp Y' d' mc ms As M Q') (kk : ∀ r M', Q' r M' → z_Ev Y d kc ks q L (r.toList ++ S) M' Q) : z_Ev Y d (mc + kc) (ms + ks) pc L S0 M Q := by
  subst hq
  subst hst
  intro p l e R s m args below meth c b sc D cA H locs cells slots ls Qm h hr
  obtain ⟨⟨hx, hb, hml, hown, hts, hK, hWd, -, hX, -⟩, hR, hP, hz, hS, hL⟩ := id h
  refine z_cont (va_runSN (As := As.map (z_tv b sc)) (rest := S.map (z_tv b sc)) ⟨hx, hb, hml, hown, hts⟩ (hM l b sc D cA) ⟨z_callN hY hts hWd ⟨Nat.le_trans hdd.1 hR.1, Nat.le_trans hdd.2 hR.2.1⟩ hl, hts _ hs, trivial⟩ ⟨z_blind b sc D cA As M, fun U hU hW => ⟨rfl, by rw [hU]; exact hP, by rw [hU]; exact hz, va_K.moved hW.alike hK, hWd.moved hW⟩⟩ rfl (by simpa using hn) hL.1 (by simp) (lv_room (by rw [z_sum hSr]; exact hS8)) hd ⟨by omega, by omega⟩) hS fun r M' H1 locs1 hQ hP1 hz1 hS1 => ?_
  rw [z_ret_map]
  exact kk r M' hQ p l e R s m args below meth c b sc D cA H1 locs1 (cells + mc) (slots + ms) ls Qm ⟨h.1, ⟨hR.1, hR.2.1, by omega, by omega⟩, hP1, hz1, hS1, hL⟩ hr
theorem ev_callV {q idx n mc ms k ci : Nat} {fs : List Value} {Y' : z_MD} {As S0 : List Value} {Q' : Option Value → List va_E → Prop} (hd : decode Y.2.1 pc = .ok (.invokevirtual idx, 3)) (hl : Cond.methodLink Y.1.cls idx Y'.1 ∈ z_ws) (hs : Cond.instanceMethod Y'.1 ∈ z_ws) (hs2 : Cond.selects Y'.1.cls Y'.1 Y'.1 ∈ z_ws) (hY : z_Cl Y' n) (hO : M[k]? = some (.inr (ci, fs))) (hcl : (z_cl[ci]?).map (fun r => r.1) = some Y'.1.cls) (hn : As.length = n) (hS8 : S.length ≤ 8) (hSr : S.all z_real = true) (hst : As.reverse ++ .ref k :: S = S0) (hq : pc + 3 = q) (hdd : d'.1 + 1 ≤ d.1 ∧ 8 + (Y'.2.2.1 + 11) + d'.2 ≤ d.2) (hM : z_Sp Y' d' mc ms (.ref k :: As) M Q') (kk : ∀ r M', Q' r M' → z_Ev Y d kc ks q L (r.toList ++ S) M' Q) : z_Ev Y d (mc + kc) (ms + ks) pc L S0 M Q := by
  subst hq
  subst hst
  intro p l e R s m args below meth c b sc D cA H locs cells slots ls Qm h hr
  obtain ⟨⟨hx, hb, hml, hown, hts, hK, hWd, -, hX, -⟩, hR, hP, hz, hS, hL⟩ := id h
  obtain ⟨rc, hrc, hrn⟩ := Option.map_eq_some_iff.mp hcl
  obtain ⟨cellB, g1, g2, g3⟩ := va_recv hK hP hrc (z_tw_at hO)
  rw [hrn] at g3
  refine z_cont (va_runV (As := As.map (z_tv b sc)) (rest := S.map (z_tv b sc)) (b := b + k) ⟨hx, hb, hml, hown, hts⟩ (hM l b sc D cA) ⟨z_callB hY hts ⟨Nat.le_trans hdd.1 hR.1, Nat.le_trans hdd.2 hR.2.1⟩ hl, hts _ hs, hts _ hs2⟩ ⟨z_blind b sc D cA (.ref k :: As) M, ⟨cellB, g1, g2, g3⟩, fun U hU hW => ⟨rfl, by rw [hU]; exact hP, by rw [hU]; exact hz, va_K.moved hW.alike hK, hWd.moved hW⟩⟩ rfl (by simpa using hn) hL.1 (by simp [z_tv]) (lv_room (by rw [z_sum hSr]; exact hS8)) hd ⟨by omega, by omega⟩) hS fun r M' H1 locs1 hQ hP1 hz1 hS1 => ?_
  rw [z_ret_map]
  exact kk r M' hQ p l e R s m args below meth c b sc D cA H1 locs1 (cells + mc) (slots + ms) ls Qm ⟨h.1, ⟨hR.1, hR.2.1, by omega, by omega⟩, hP1, hz1, hS1, hL⟩ hr
theorem ev_callI {q idx n mc ms k : Nat} {Y' : z_MD} {As S0 : List Value} {Q' : Option Value → List va_E → Prop} (hd : decode Y.2.1 pc = .ok (.invokespecial idx, 3)) (hl : Cond.methodLink Y.1.cls idx Y'.1 ∈ z_ws) (hs : Cond.instanceMethod Y'.1 ∈ z_ws) (hs2 : Y'.1.name = "<init>") (hs3 : Y'.2.2.2.1 = none) (hY : z_Cl Y' n) (hn : As.length = n) (hS8 : S.length ≤ 8) (hSr : S.all z_real = true) (hst : As.reverse ++ .ref k :: S = S0) (hq : pc + 3 = q) (hdd : d'.1 + 1 ≤ d.1 ∧ 8 + (Y'.2.2.1 + 11) + d'.2 ≤ d.2) (hM : z_Sp Y' d' mc ms (.ref k :: As) M Q') (kk : ∀ r M', Q' r M' → z_Ev Y d kc ks q L (r.toList ++ S) M' Q) : z_Ev Y d (mc + kc) (ms + ks) pc L S0 M Q := by
  subst hq
  subst hst
  intro p l e R s m args below meth c b sc D cA H locs cells slots ls Qm h hr
  obtain ⟨⟨hx, hb, hml, hown, hts, hK, hWd, -, hX, -⟩, hR, hP, hz, hS, hL⟩ := id h
  have hcb := z_callB (R := R) (s := s) (args := args) (mc := mc) (ms := ms) hY hts ⟨Nat.le_trans hdd.1 hR.1, Nat.le_trans hdd.2 hR.2.1⟩ hl
  have hM1 := hM l b sc D cA
  rw [hs3] at hcb hM1
  refine z_cont (va_runI (As := As.map (z_tv b sc)) (rest := S.map (z_tv b sc)) (b := b + k) ⟨hx, hb, hml, hown, hts⟩ hM1 ⟨hcb, hs2, hts _ hs⟩ ⟨z_blind b sc D cA (.ref k :: As) M, fun U hU hW => ⟨rfl, by rw [hU]; exact hP, by rw [hU]; exact hz, va_K.moved hW.alike hK, hWd.moved hW⟩⟩ rfl (by simpa using hn) hL.1 (by simp [z_tv]) (lv_room (by rw [z_sum hSr]; exact hS8)) hd ⟨by omega, by omega⟩) hS fun r M' H1 locs1 hQ hP1 hz1 hS1 => ?_
  rw [z_ret_map]
  exact kk r M' hQ p l e R s m args below meth c b sc D cA H1 locs1 (cells + mc) (slots + ms) ls Qm ⟨h.1, ⟨hR.1, hR.2.1, by omega, by omega⟩, hP1, hz1, hS1, hL⟩ hr
theorem ev_ret (hd : decode Y.2.1 pc = .ok (.return_, 1)) (hret : Y.2.2.2.1 = none) (hQ : Q none M) : z_Ev Y d kc ks pc L [] M Q := by
  intro p l e R s m args below meth c b sc D cA H locs cells slots ls Qm h hr
  exact hr none M H locs cells slots pc ls hQ h.2.2.1 h.2.2.2.1 h.2.2.2.2.1 (by have := h.2.1; omega) (by have := h.2.1; omega) ⟨hd, hret⟩
theorem ev_iret {x : Int32} {ty : FieldType} (hd : decode Y.2.1 pc = .ok (.ireturn, 1)) (hret : Y.2.2.2.1 = some ty) (hn : narrow ty (.int x) = .int x) (hQ : Q (some (.int x)) M) : z_Ev Y d kc ks pc L [.int x] M Q := by
  intro p l e R s m args below meth c b sc D cA H locs cells slots ls Qm h hr
  exact hr (some (.int x)) M H locs cells slots pc ls hQ h.2.2.1 h.2.2.2.1 h.2.2.2.2.1 (by have := h.2.1; omega) (by have := h.2.1; omega) (Or.inl ⟨x, ty, rfl, hd, hret, hn⟩)
theorem ev_aret {x : Nat} {C : String} (hd : decode Y.2.1 pc = .ok (.areturn, 1)) (hret : Y.2.2.2.1 = some (.object C)) (hQ : Q (some (.ref x)) M) : z_Ev Y d kc ks pc L [.ref x] M Q := by
  intro p l e R s m args below meth c b sc D cA H locs cells slots ls Qm h hr
  exact hr (some (.ref x)) M H locs cells slots pc ls hQ h.2.2.1 h.2.2.2.1 h.2.2.2.2.1 (by have := h.2.1; omega) (by have := h.2.1; omega) (Or.inr ⟨C, Or.inr ⟨x, rfl⟩, hd, hret⟩)
theorem ev_aretN {C : String} (hd : decode Y.2.1 pc = .ok (.areturn, 1)) (hret : Y.2.2.2.1 = some (.object C)) (hQ : Q (some .null) M) : z_Ev Y d kc ks pc L [.null] M Q := by
  intro p l e R s m args below meth c b sc D cA H locs cells slots ls Qm h hr
  exact hr (some .null) M H locs cells slots pc ls hQ h.2.2.1 h.2.2.2.1 h.2.2.2.2.1 (by have := h.2.1; omega) (by have := h.2.1; omega) (Or.inr ⟨C, Or.inl rfl, hd, hret⟩)
theorem ev_mono {Q2 : Option Value → List va_E → Prop} (hk : ∀ r M', Q r M' → Q2 r M') (h : z_Ev Y d kc ks pc L S M Q) : z_Ev Y d kc ks pc L S M Q2 := by
  intro p l e R s m args below meth c b sc D cA H locs cells slots ls Qm hh hr
  exact h p l e R s m args below meth c b sc D cA H locs cells slots ls Qm hh (fun r M' H' locs' cells' slots' pc' ls' hQ => hr r M' H' locs' cells' slots' pc' ls' (hk r M' hQ))
end
end
section
def iI (z : Int) : Int32 := Int32.ofInt z
abbrev z_rg (z : Int) : Prop := -2147483648 ≤ z ∧ z < 2147483648
abbrev zA (t n : Nat) (g : Int → Int) : va_E := .inl (t, n, .inl (fun j => iI (g (j : Int))))
abbrev zP (t n : Nat) (f : Int → Option Nat) : va_E := .inl (t, n, .inr (.inr (.inr (.inr (fun j => f (j : Int))))))
abbrev zi (z : Int) : Value := .int (iI z)
def zup {α : Type} (g : Int → α) (z : Int) (v : α) : Int → α := fun j => if j = z then v else g j
theorem iI_add (a b : Int) : iI a + iI b = iI (a + b) := (Int32.ofInt_add a b).symm
theorem iI_sub (a b : Int) : iI a - iI b = iI (a - b) := (Int32.ofInt_sub a b).symm
theorem iI_mul (a b : Int) : iI a * iI b = iI (a * b) := (Int32.ofInt_mul a b).symm
theorem iI_neg (a : Int) : - iI a = iI (-a) := (Int32.ofInt_neg a).symm
theorem iI_toInt {z : Int} (h : z_rg z) : (iI z).toInt = z := Int32.toInt_ofInt_of_le (by have := h.1; omega) (by have := h.2; omega)
theorem iI_lt {a b : Int} (ha : z_rg a) (hb : z_rg b) : iI a < iI b ↔ a < b := by
  rw [Int32.lt_iff_toInt_lt, iI_toInt ha, iI_toInt hb]
theorem iI_le {a b : Int} (ha : z_rg a) (hb : z_rg b) : iI a ≤ iI b ↔ a ≤ b := by
  rw [Int32.le_iff_toInt_le, iI_toInt ha, iI_toInt hb]
theorem iI_eq {a b : Int} (ha : z_rg a) (hb : z_rg b) : iI a = iI b ↔ a = b := by
  rw [← Int32.toInt_inj, iI_toInt ha, iI_toInt hb]
theorem iI_0 : iI 0 = 0 := rfl
theorem z_rg_0 : z_rg 0 := ⟨by decide, by decide⟩
theorem iI_of (x : Int32) : x = iI x.toInt := (Int32.ofInt_toInt x).symm
theorem iI_rg (x : Int32) : z_rg x.toInt := ⟨by have := Int32.le_toInt x; omega, by have := Int32.toInt_lt x; omega⟩
theorem iI_clamp {z : Int} (h : z_rg z) : (iI z).toNatClampNeg = z.toNat := by
  rw [← Int32.toNat_toInt, iI_toInt h]
theorem iI_in {z : Int} {n : Nat} (h : 0 ≤ z ∧ z < n) (hn : n ≤ 1000) : vp_in (iI z) n := by
  rw [vp_in_iff, iI_toInt ⟨by omega, by omega⟩]
  exact h
theorem iI_nI (n : Nat) : nI n = iI (n : Int) := (Int32.ofInt_eq_ofNat).symm
theorem iI_div {a d : Int} (ha : 0 ≤ a ∧ a < 2147483648) (hd : 0 < d ∧ d < 2147483648) : iI a / iI d = iI (a / d) := by
  have hq : 0 ≤ a / d := Int.ediv_nonneg ha.1 (by omega)
  have hq2 : a / d ≤ a := Int.ediv_le_self d ha.1
  rw [← Int32.toInt_inj, Int32.toInt_div_of_ne_right, iI_toInt ⟨by omega, by omega⟩, iI_toInt ⟨by omega, by omega⟩, iI_toInt ⟨by omega, by omega⟩, Int.tdiv_eq_ediv_of_nonneg ha.1]
  intro h
  have := congrArg Int32.toInt h
  rw [iI_toInt ⟨by omega, by omega⟩] at this
  have h1 : (-1 : Int32).toInt = -1 := by decide
  omega
theorem iI_rem {a d : Int} (ha : 0 ≤ a ∧ a < 2147483648) (hd : 0 < d ∧ d < 2147483648) : iI a - iI a / iI d * iI d = iI (a % d) := by
  rw [iI_div ha hd, iI_mul, iI_sub, Int.emod_def, Int.mul_comm]
theorem zup_s {α : Type} {g : Int → α} {z : Int} {v : α} : zup g z v z = v := by simp [zup]
theorem zup_n {α : Type} {g : Int → α} {z j : Int} {v : α} (h : j ≠ z) : zup g z v j = g j := by simp [zup, h]
theorem iI_upd {g : Int → Int} {z v : Int} (hz : 0 ≤ z) : upd (fun j => iI (g (j : Int))) z.toNat (iI v) = fun j : Nat => iI (zup g z v (j : Int)) := by
  funext j
  unfold upd zup
  by_cases h : (j : Int) = z
  · have h2 : j = z.toNat := by omega
    rw [if_pos h2, if_pos h]
  · have h2 : ¬ j = z.toNat := by omega
    rw [if_neg h2, if_neg h]
theorem iI_updP {f : Int → Option Nat} {z : Int} {v : Option Nat} (hz : 0 ≤ z) : va_up (fun j : Nat => f (j : Int)) z.toNat v = fun j : Nat => zup f z v (j : Int) := by
  funext j
  unfold va_up zup
  by_cases h : (j : Int) = z
  · have h2 : j = z.toNat := by omega
    rw [if_pos h2, if_pos h]
  · have h2 : ¬ j = z.toNat := by omega
    rw [if_neg h2, if_neg h]
section
variable {Y : z_MD} {d : Nat × Nat} {kc ks pc : Nat} {L S : List Value} {M : List va_E} {Q : Option Value → List va_E → Prop}
theorem zr_iadd {q : Nat} {x y : Int} (hd : decode Y.2.1 pc = .ok (.iadd, 1)) (hq : pc + 1 = q) (k : z_Ev Y d kc ks q L (zi (x + y) :: S) M Q) : z_Ev Y d kc ks pc L (zi y :: zi x :: S) M Q := ev_iadd hd hq (by rw [iI_add]; exact k)
theorem zr_isub {q : Nat} {x y : Int} (hd : decode Y.2.1 pc = .ok (.isub, 1)) (hq : pc + 1 = q) (k : z_Ev Y d kc ks q L (zi (x - y) :: S) M Q) : z_Ev Y d kc ks pc L (zi y :: zi x :: S) M Q := ev_isub hd hq (by rw [iI_sub]; exact k)
theorem zr_imul {q : Nat} {x y : Int} (hd : decode Y.2.1 pc = .ok (.imul, 1)) (hq : pc + 1 = q) (k : z_Ev Y d kc ks q L (zi (x * y) :: S) M Q) : z_Ev Y d kc ks pc L (zi y :: zi x :: S) M Q := ev_imul hd hq (by rw [iI_mul]; exact k)
theorem zr_ineg {q : Nat} {x : Int} (hd : decode Y.2.1 pc = .ok (.ineg, 1)) (hq : pc + 1 = q) (k : z_Ev Y d kc ks q L (zi (-x) :: S) M Q) : z_Ev Y d kc ks pc L (zi x :: S) M Q := ev_ineg hd hq (by rw [iI_neg]; exact k)
theorem zr_idiv {q : Nat} {x y : Int} (hd : decode Y.2.1 pc = .ok (.idiv, 1)) (hx : 0 ≤ x ∧ x < 2147483648) (hy : 0 < y ∧ y < 2147483648) (hq : pc + 1 = q) (k : z_Ev Y d kc ks q L (zi (x / y) :: S) M Q) : z_Ev Y d kc ks pc L (zi y :: zi x :: S) M Q := by
  refine ev_idiv hd (fun h => ?_) hq (by rw [iI_div hx hy]; exact k)
  rw [← iI_0, iI_eq ⟨by omega, by omega⟩ ⟨by omega, by omega⟩] at h
  omega
theorem zr_irem {q : Nat} {x y : Int} (hd : decode Y.2.1 pc = .ok (.irem, 1)) (hx : 0 ≤ x ∧ x < 2147483648) (hy : 0 < y ∧ y < 2147483648) (hq : pc + 1 = q) (k : z_Ev Y d kc ks q L (zi (x % y) :: S) M Q) : z_Ev Y d kc ks pc L (zi y :: zi x :: S) M Q := by
  refine ev_irem hd (fun h => ?_) hq (by rw [iI_rem hx hy]; exact k)
  rw [← iI_0, iI_eq ⟨by omega, by omega⟩ ⟨by omega, by omega⟩] at h
  omega
theorem zr_iinc {q i : Nat} {n x : Int} {L' : List Value} (hd : decode Y.2.1 pc = .ok (.iinc i n, 3)) (hl : L[i]? = some (zi x)) (hi : i < Y.2.2.1) (hL : L.set i (zi (x + n)) = L') (hq : pc + 3 = q) (k : z_Ev Y d kc ks q L' S M Q) : z_Ev Y d kc ks pc L S M Q := ev_iinc hd hl hi (iI_add x n) hL hq k
theorem zr_if_eq {q t : Nat} {x off : Int} (hd : decode Y.2.1 pc = .ok (.ifCond .eq off, 3)) (ht : (pc : Int) + off = (t : Int)) (hq : pc + 3 = q) (hx : z_rg x) (kt : x = 0 → z_Ev Y d kc ks t L S M Q) (kf : x ≠ 0 → z_Ev Y d kc ks q L S M Q) : z_Ev Y d kc ks pc L (zi x :: S) M Q := ev_if_eq hd ht hq (fun h => kt ((iI_eq (a := x) (b := 0) hx z_rg_0).mp h)) (fun h => kf (fun z => h ((iI_eq (a := x) (b := 0) hx z_rg_0).mpr z)))
theorem zr_icmp_eq {q t : Nat} {x y off : Int} (hd : decode Y.2.1 pc = .ok (.if_icmp .eq off, 3)) (ht : (pc : Int) + off = (t : Int)) (hq : pc + 3 = q) (hx : z_rg x) (hy : z_rg y) (kt : x = y → z_Ev Y d kc ks t L S M Q) (kf : x ≠ y → z_Ev Y d kc ks q L S M Q) : z_Ev Y d kc ks pc L (zi y :: zi x :: S) M Q := ev_icmp_eq hd ht hq (fun h => kt ((iI_eq (a := x) (b := y) hx hy).mp h)) (fun h => kf (fun z => h ((iI_eq (a := x) (b := y) hx hy).mpr z)))
theorem zr_if_ne {q t : Nat} {x off : Int} (hd : decode Y.2.1 pc = .ok (.ifCond .ne off, 3)) (ht : (pc : Int) + off = (t : Int)) (hq : pc + 3 = q) (hx : z_rg x) (kt : x ≠ 0 → z_Ev Y d kc ks t L S M Q) (kf : x = 0 → z_Ev Y d kc ks q L S M Q) : z_Ev Y d kc ks pc L (zi x :: S) M Q := ev_if_ne hd ht hq (fun h => kt (fun z => h ((iI_eq (a := x) (b := 0) hx z_rg_0).mpr z))) (fun h => kf ((iI_eq (a := x) (b := 0) hx z_rg_0).mp h))
theorem zr_icmp_ne {q t : Nat} {x y off : Int} (hd : decode Y.2.1 pc = .ok (.if_icmp .ne off, 3)) (ht : (pc : Int) + off = (t : Int)) (hq : pc + 3 = q) (hx : z_rg x) (hy : z_rg y) (kt : x ≠ y → z_Ev Y d kc ks t L S M Q) (kf : x = y → z_Ev Y d kc ks q L S M Q) : z_Ev Y d kc ks pc L (zi y :: zi x :: S) M Q := ev_icmp_ne hd ht hq (fun h => kt (fun z => h ((iI_eq (a := x) (b := y) hx hy).mpr z))) (fun h => kf ((iI_eq (a := x) (b := y) hx hy).mp h))
theorem zr_if_lt {q t : Nat} {x off : Int} (hd : decode Y.2.1 pc = .ok (.ifCond .lt off, 3)) (ht : (pc : Int) + off = (t : Int)) (hq : pc + 3 = q) (hx : z_rg x) (kt : x < 0 → z_Ev Y d kc ks t L S M Q) (kf : 0 ≤ x → z_Ev Y d kc ks q L S M Q) : z_Ev Y d kc ks pc L (zi x :: S) M Q := ev_if_lt hd ht hq (fun h => kt ((iI_lt (a := x) (b := 0) hx z_rg_0).mp h)) (fun h => kf (Int.not_lt.mp (fun w => h ((iI_lt (a := x) (b := 0) hx z_rg_0).mpr w))))
theorem zr_icmp_lt {q t : Nat} {x y off : Int} (hd : decode Y.2.1 pc = .ok (.if_icmp .lt off, 3)) (ht : (pc : Int) + off = (t : Int)) (hq : pc + 3 = q) (hx : z_rg x) (hy : z_rg y) (kt : x < y → z_Ev Y d kc ks t L S M Q) (kf : y ≤ x → z_Ev Y d kc ks q L S M Q) : z_Ev Y d kc ks pc L (zi y :: zi x :: S) M Q := ev_icmp_lt hd ht hq (fun h => kt ((iI_lt (a := x) (b := y) hx hy).mp h)) (fun h => kf (Int.not_lt.mp (fun w => h ((iI_lt (a := x) (b := y) hx hy).mpr w))))
theorem zr_if_ge {q t : Nat} {x off : Int} (hd : decode Y.2.1 pc = .ok (.ifCond .ge off, 3)) (ht : (pc : Int) + off = (t : Int)) (hq : pc + 3 = q) (hx : z_rg x) (kt : 0 ≤ x → z_Ev Y d kc ks t L S M Q) (kf : x < 0 → z_Ev Y d kc ks q L S M Q) : z_Ev Y d kc ks pc L (zi x :: S) M Q := ev_if_ge hd ht hq (fun h => kt ((iI_le (a := 0) (b := x) z_rg_0 hx).mp h)) (fun h => kf (Int.not_le.mp (fun w => h ((iI_le (a := 0) (b := x) z_rg_0 hx).mpr w))))
theorem zr_icmp_ge {q t : Nat} {x y off : Int} (hd : decode Y.2.1 pc = .ok (.if_icmp .ge off, 3)) (ht : (pc : Int) + off = (t : Int)) (hq : pc + 3 = q) (hx : z_rg x) (hy : z_rg y) (kt : y ≤ x → z_Ev Y d kc ks t L S M Q) (kf : x < y → z_Ev Y d kc ks q L S M Q) : z_Ev Y d kc ks pc L (zi y :: zi x :: S) M Q := ev_icmp_ge hd ht hq (fun h => kt ((iI_le (a := y) (b := x) hy hx).mp h)) (fun h => kf (Int.not_le.mp (fun w => h ((iI_le (a := y) (b := x) hy hx).mpr w))))
theorem zr_if_gt {q t : Nat} {x off : Int} (hd : decode Y.2.1 pc = .ok (.ifCond .gt off, 3)) (ht : (pc : Int) + off = (t : Int)) (hq : pc + 3 = q) (hx : z_rg x) (kt : 0 < x → z_Ev Y d kc ks t L S M Q) (kf : x ≤ 0 → z_Ev Y d kc ks q L S M Q) : z_Ev Y d kc ks pc L (zi x :: S) M Q := ev_if_gt hd ht hq (fun h => kt ((iI_lt (a := 0) (b := x) z_rg_0 hx).mp h)) (fun h => kf (Int.not_lt.mp (fun w => h ((iI_lt (a := 0) (b := x) z_rg_0 hx).mpr w))))
theorem zr_icmp_gt {q t : Nat} {x y off : Int} (hd : decode Y.2.1 pc = .ok (.if_icmp .gt off, 3)) (ht : (pc : Int) + off = (t : Int)) (hq : pc + 3 = q) (hx : z_rg x) (hy : z_rg y) (kt : y < x → z_Ev Y d kc ks t L S M Q) (kf : x ≤ y → z_Ev Y d kc ks q L S M Q) : z_Ev Y d kc ks pc L (zi y :: zi x :: S) M Q := ev_icmp_gt hd ht hq (fun h => kt ((iI_lt (a := y) (b := x) hy hx).mp h)) (fun h => kf (Int.not_lt.mp (fun w => h ((iI_lt (a := y) (b := x) hy hx).mpr w))))
theorem zr_if_le {q t : Nat} {x off : Int} (hd : decode Y.2.1 pc = .ok (.ifCond .le off, 3)) (ht : (pc : Int) + off = (t : Int)) (hq : pc + 3 = q) (hx : z_rg x) (kt : x ≤ 0 → z_Ev Y d kc ks t L S M Q) (kf : 0 < x → z_Ev Y d kc ks q L S M Q) : z_Ev Y d kc ks pc L (zi x :: S) M Q := ev_if_le hd ht hq (fun h => kt ((iI_le (a := x) (b := 0) hx z_rg_0).mp h)) (fun h => kf (Int.not_le.mp (fun w => h ((iI_le (a := x) (b := 0) hx z_rg_0).mpr w))))
theorem zr_icmp_le {q t : Nat} {x y off : Int} (hd : decode Y.2.1 pc = .ok (.if_icmp .le off, 3)) (ht : (pc : Int) + off = (t : Int)) (hq : pc + 3 = q) (hx : z_rg x) (hy : z_rg y) (kt : x ≤ y → z_Ev Y d kc ks t L S M Q) (kf : y < x → z_Ev Y d kc ks q L S M Q) : z_Ev Y d kc ks pc L (zi y :: zi x :: S) M Q := ev_icmp_le hd ht hq (fun h => kt ((iI_le (a := x) (b := y) hx hy).mp h)) (fun h => kf (Int.not_le.mp (fun w => h ((iI_le (a := x) (b := y) hx hy).mpr w))))
theorem zr_iald {q k n : Nat} {g : Int → Int} {z : Int} (hd : decode Y.2.1 pc = .ok (.iaload, 1)) (hM : M[k]? = some (zA 0 n g)) (hn : n ≤ 1000) (hz : 0 ≤ z ∧ z < n) (hq : pc + 1 = q) (kk : z_Ev Y d kc ks q L (zi (g z) :: S) M Q) : z_Ev Y d kc ks pc L (zi z :: .ref k :: S) M Q := by
  refine ev_iald hd hM (iI_in hz hn) (iI_clamp ⟨by omega, by omega⟩) hq ?_
  rw [Int.toNat_of_nonneg hz.1]
  exact kk
theorem zr_zald {q k n : Nat} {g : Int → Int} {z : Int} (hd : decode Y.2.1 pc = .ok (.baload, 1)) (hM : M[k]? = some (zA 1 n g)) (hn : n ≤ 1000) (hz : 0 ≤ z ∧ z < n) (hq : pc + 1 = q) (kk : z_Ev Y d kc ks q L (zi (g z) :: S) M Q) : z_Ev Y d kc ks pc L (zi z :: .ref k :: S) M Q := by
  refine ev_zald hd hM (iI_in hz hn) (iI_clamp ⟨by omega, by omega⟩) hq ?_
  rw [Int.toNat_of_nonneg hz.1]
  exact kk
theorem zr_aald {q k n t x : Nat} {f : Int → Option Nat} {z : Int} (hd : decode Y.2.1 pc = .ok (.aaload, 1)) (hT : ∀ cA, ∃ C, (z_tys cA)[t]? = some (cA t, .object C)) (hM : M[k]? = some (zP t n f)) (hn : n ≤ 1000) (hz : 0 ≤ z ∧ z < n) (hf : f z = some x) (hq : pc + 1 = q) (kk : z_Ev Y d kc ks q L (.ref x :: S) M Q) : z_Ev Y d kc ks pc L (zi z :: .ref k :: S) M Q := by
  refine ev_aald hd hT hM (iI_in hz hn) (iI_clamp ⟨by omega, by omega⟩) ?_ hq kk
  rw [Int.toNat_of_nonneg hz.1]
  exact hf
theorem zr_iast {q k n : Nat} {g : Int → Int} {z x : Int} {M' : List va_E} (hd : decode Y.2.1 pc = .ok (.iastore, 1)) (hM : M[k]? = some (zA 0 n g)) (hn : n ≤ 1000) (hz : 0 ≤ z ∧ z < n) (hM' : M.set k (zA 0 n (zup g z x)) = M') (hq : pc + 1 = q) (kk : z_Ev Y d kc ks q L S M' Q) : z_Ev Y d kc ks pc L (zi x :: zi z :: .ref k :: S) M Q := by
  subst hM'
  exact ev_iast hd hM (iI_in hz hn) (iI_clamp ⟨by omega, by omega⟩) (by rw [iI_upd hz.1]) hq kk
theorem zr_zast {q k n : Nat} {g : Int → Int} {z x : Int} {M' : List va_E} (hd : decode Y.2.1 pc = .ok (.bastore, 1)) (hM : M[k]? = some (zA 1 n g)) (hn : n ≤ 1000) (hx : x = 0 ∨ x = 1) (hz : 0 ≤ z ∧ z < n) (hM' : M.set k (zA 1 n (zup g z x)) = M') (hq : pc + 1 = q) (kk : z_Ev Y d kc ks q L S M' Q) : z_Ev Y d kc ks pc L (zi x :: zi z :: .ref k :: S) M Q := by
  subst hM'
  exact ev_zast hd hM (by rcases hx with rfl | rfl <;> decide) (iI_in hz hn) (iI_clamp ⟨by omega, by omega⟩) (by rw [iI_upd hz.1]) hq kk
theorem zr_aast {q k n t v ci : Nat} {f : Int → Option Nat} {z : Int} {vs : List Value} {M' : List va_E} (hd : decode Y.2.1 pc = .ok (.aastore, 1)) (hT : ∀ cA, ∃ r, z_cl[ci]? = some r ∧ (z_tys cA)[t]? = some (cA t, .object r.1)) (hM : M[k]? = some (zP t n f)) (hv : M[v]? = some (.inr (ci, vs))) (hn : n ≤ 1000) (hz : 0 ≤ z ∧ z < n) (hM' : M.set k (zP t n (zup f z (some v))) = M') (hq : pc + 1 = q) (kk : z_Ev Y d kc ks q L S M' Q) : z_Ev Y d kc ks pc L (.ref v :: zi z :: .ref k :: S) M Q := by
  subst hM'
  exact ev_aast hd hT hM hv (iI_in hz hn) (iI_clamp ⟨by omega, by omega⟩) (by rw [iI_updP hz.1]) hq kk
theorem zr_newi {q n : Nat} (hd : decode Y.2.1 pc = .ok (.newarray .int, 2)) (hw : Cond.arrayClass .int ∈ z_ws) (hn : n ≤ 1000) (hq : pc + 2 = q) (kk : z_Ev Y d kc ks q L (.ref M.length :: S) (M ++ [zA 0 n (fun _ => 0)]) Q) : z_Ev Y d (kc + 1) (ks + n) pc L (zi (n : Int) :: S) M Q := ev_newi hd hw (iI_nI n).symm hn hq kk
theorem zr_newz {q n : Nat} (hd : decode Y.2.1 pc = .ok (.newarray .boolean, 2)) (hw : Cond.arrayClass .boolean ∈ z_ws) (hn : n ≤ 1000) (hq : pc + 2 = q) (kk : z_Ev Y d kc ks q L (.ref M.length :: S) (M ++ [zA 1 n (fun _ => 0)]) Q) : z_Ev Y d (kc + 1) (ks + n) pc L (zi (n : Int) :: S) M Q := ev_newz hd hw (iI_nI n).symm hn hq kk
theorem zr_newq {q n t idx : Nat} {C : String} (hd : decode Y.2.1 pc = .ok (.anewarray idx, 3)) (hw : Cond.classLink Y.1.cls idx C ∈ z_ws) (hC : C ∈ z_ao) (hT : ∀ cA, (z_tys cA)[t]? = some (cA t, .object C)) (hn : n ≤ 1000) (hq : pc + 3 = q) (kk : z_Ev Y d kc ks q L (.ref M.length :: S) (M ++ [zP t n (fun _ => none)]) Q) : z_Ev Y d (kc + 1) (ks + n) pc L (zi (n : Int) :: S) M Q := ev_newq hd hw hC hT (iI_nI n).symm hn hq kk
theorem zr_puti {q k ci j idx : Nat} {fs fs' : List Value} {v : Int} {M' : List va_E} (hd : decode Y.2.1 pc = .ok (.putfield idx, 3)) (hF : z_G Y.1.cls idx ci j false .int) (hM : M[k]? = some (.inr (ci, fs))) (hj : j < fs.length) (hfs : fs.set j (zi v) = fs') (hM' : M.set k (.inr (ci, fs')) = M') (hq : pc + 3 = q) (kk : z_Ev Y d kc ks q L S M' Q) : z_Ev Y d kc ks pc L (zi v :: .ref k :: S) M Q := ev_put hd hF hM (fun _ _ => ⟨rfl, rfl⟩) hj hfs hM' hq kk
theorem zr_iret {x : Int} (hd : decode Y.2.1 pc = .ok (.ireturn, 1)) (hret : Y.2.2.2.1 = some .int) (hQ : Q (some (zi x)) M) : z_Ev Y d kc ks pc L [zi x] M Q := ev_iret hd hret rfl hQ
theorem zr_zret {x : Int} (hd : decode Y.2.1 pc = .ok (.ireturn, 1)) (hret : Y.2.2.2.1 = some .boolean) (hx : x = 0 ∨ x = 1) (hQ : Q (some (zi x)) M) : z_Ev Y d kc ks pc L [zi x] M Q := ev_iret hd hret (by rcases hx with rfl | rfl <;> decide) hQ
end
-- calls with exact results
def z_LV (own : String) (idx : Nat) (Y' : z_MD) (n : Nat) : Prop := Cond.methodLink own idx Y'.1 ∈ z_ws ∧ Cond.instanceMethod Y'.1 ∈ z_ws ∧ Cond.selects Y'.1.cls Y'.1 Y'.1 ∈ z_ws ∧ z_Cl Y' n
def z_LS (own : String) (idx : Nat) (Y' : z_MD) (n : Nat) : Prop := Cond.methodLink own idx Y'.1 ∈ z_ws ∧ Cond.static Y'.1 ∈ z_ws ∧ z_Cl Y' n
def z_LN (own : String) (idx : Nat) (Y' : z_MD) (n : Nat) : Prop := (∃ host : String, (own, idx, Y'.1, host) ∈ z_nw) ∧ Cond.static Y'.1 ∈ z_ws ∧ z_Cl Y' n
def z_LI (own : String) (idx : Nat) (Y' : z_MD) (n : Nat) : Prop := Cond.methodLink own idx Y'.1 ∈ z_ws ∧ Cond.instanceMethod Y'.1 ∈ z_ws ∧ Y'.1.name = "<init>" ∧ Y'.2.2.2.1 = none ∧ z_Cl Y' n
section
variable {Y Y' : z_MD} {d d' : Nat × Nat} {kc ks mc ms pc q idx n k ci : Nat} {L S S0 As fs : List Value} {M M1 : List va_E} {Q : Option Value → List va_E → Prop} {r : Option Value} {v : Value}
theorem cv_V (hd : decode Y.2.1 pc = .ok (.invokevirtual idx, 3)) (hl : z_LV Y.1.cls idx Y' n) (hO : M[k]? = some (.inr (ci, fs))) (hcl : (z_cl[ci]?).map (fun r => r.1) = some Y'.1.cls) (hn : As.length = n) (hS8 : S.length ≤ 8) (hSr : S.all z_real = true) (hst : As.reverse ++ .ref k :: S = S0) (hq : pc + 3 = q) (hdd : d'.1 + 1 ≤ d.1 ∧ 8 + (Y'.2.2.1 + 11) + d'.2 ≤ d.2) (hM : z_Sp Y' d' 0 0 (.ref k :: As) M (fun r M' => r = some v ∧ M' = M1)) (kk : z_Ev Y d kc ks q L (v :: S) M1 Q) : z_Ev Y d kc ks pc L S0 M Q := by
  have h := ev_callV (kc := kc) (ks := ks) hd hl.1 hl.2.1 hl.2.2.1 hl.2.2.2 hO hcl hn hS8 hSr hst hq hdd hM (Q := Q) (L := L) (fun r M' h => by obtain ⟨rfl, rfl⟩ := h; exact kk)
  rwa [Nat.zero_add, Nat.zero_add] at h
theorem cv_Vv (hd : decode Y.2.1 pc = .ok (.invokevirtual idx, 3)) (hl : z_LV Y.1.cls idx Y' n) (hO : M[k]? = some (.inr (ci, fs))) (hcl : (z_cl[ci]?).map (fun r => r.1) = some Y'.1.cls) (hn : As.length = n) (hS8 : S.length ≤ 8) (hSr : S.all z_real = true) (hst : As.reverse ++ .ref k :: S = S0) (hq : pc + 3 = q) (hdd : d'.1 + 1 ≤ d.1 ∧ 8 + (Y'.2.2.1 + 11) + d'.2 ≤ d.2) (hM : z_Sp Y' d' 0 0 (.ref k :: As) M (fun r M' => r = none ∧ M' = M1)) (kk : z_Ev Y d kc ks q L S M1 Q) : z_Ev Y d kc ks pc L S0 M Q := by
  have h := ev_callV (kc := kc) (ks := ks) hd hl.1 hl.2.1 hl.2.2.1 hl.2.2.2 hO hcl hn hS8 hSr hst hq hdd hM (Q := Q) (L := L) (fun r M' h => by obtain ⟨rfl, rfl⟩ := h; exact kk)
  rwa [Nat.zero_add, Nat.zero_add] at h
theorem cv_S (hd : decode Y.2.1 pc = .ok (.invokestatic idx, 3)) (hl : z_LS Y.1.cls idx Y' n) (hn : As.length = n) (hS8 : S.length ≤ 8) (hSr : S.all z_real = true) (hst : As.reverse ++ S = S0) (hq : pc + 3 = q) (hdd : d'.1 + 1 ≤ d.1 ∧ 8 + (Y'.2.2.1 + 11) + d'.2 ≤ d.2) (hM : z_Sp Y' d' 0 0 As M (fun r M' => r = some v ∧ M' = M1)) (kk : z_Ev Y d kc ks q L (v :: S) M1 Q) : z_Ev Y d kc ks pc L S0 M Q := by
  have h := ev_callS (kc := kc) (ks := ks) hd hl.1 hl.2.1 hl.2.2 hn hS8 hSr hst hq hdd hM (Q := Q) (L := L) (fun r M' h => by obtain ⟨rfl, rfl⟩ := h; exact kk)
  rwa [Nat.zero_add, Nat.zero_add] at h
theorem cv_N (hd : decode Y.2.1 pc = .ok (.invokestatic idx, 3)) (hl : z_LN Y.1.cls idx Y' n) (hn : As.length = n) (hS8 : S.length ≤ 8) (hSr : S.all z_real = true) (hst : As.reverse ++ S = S0) (hq : pc + 3 = q) (hdd : d'.1 + 1 ≤ d.1 ∧ 8 + (Y'.2.2.1 + 11) + d'.2 ≤ d.2) (hM : z_Sp Y' d' 0 0 As M (fun r M' => r = some v ∧ M' = M1)) (kk : z_Ev Y d kc ks q L (v :: S) M1 Q) : z_Ev Y d kc ks pc L S0 M Q := by
  obtain ⟨⟨host, hh⟩, h2, h3⟩ := hl
  have h := ev_callSN (kc := kc) (ks := ks) hd hh h2 h3 hn hS8 hSr hst hq hdd hM (Q := Q) (L := L) (fun r M' h => by obtain ⟨rfl, rfl⟩ := h; exact kk)
  rwa [Nat.zero_add, Nat.zero_add] at h
theorem cv_I {kc1 ks1 : Nat} (hd : decode Y.2.1 pc = .ok (.invokespecial idx, 3)) (hl : z_LI Y.1.cls idx Y' n) (hn : As.length = n) (hS8 : S.length ≤ 8) (hSr : S.all z_real = true) (hst : As.reverse ++ .ref k :: S = S0) (hq : pc + 3 = q) (hkc : mc + kc = kc1) (hks : ms + ks = ks1) (hdd : d'.1 + 1 ≤ d.1 ∧ 8 + (Y'.2.2.1 + 11) + d'.2 ≤ d.2) (hM : z_Sp Y' d' mc ms (.ref k :: As) M (fun r M' => r = none ∧ M' = M1)) (kk : z_Ev Y d kc ks q L S M1 Q) : z_Ev Y d kc1 ks1 pc L S0 M Q := by
  subst hkc
  subst hks
  exact ev_callI hd hl.1 hl.2.1 hl.2.2.1 hl.2.2.2.1 hl.2.2.2.2 hn hS8 hSr hst hq hdd hM (fun r M' h => by obtain ⟨rfl, rfl⟩ := h; exact kk)
theorem cv_Va {kc1 ks1 : Nat} (hd : decode Y.2.1 pc = .ok (.invokevirtual idx, 3)) (hl : z_LV Y.1.cls idx Y' n) (hO : M[k]? = some (.inr (ci, fs))) (hcl : (z_cl[ci]?).map (fun r => r.1) = some Y'.1.cls) (hn : As.length = n) (hS8 : S.length ≤ 8) (hSr : S.all z_real = true) (hst : As.reverse ++ .ref k :: S = S0) (hq : pc + 3 = q) (hkc : mc + kc = kc1) (hks : ms + ks = ks1) (hdd : d'.1 + 1 ≤ d.1 ∧ 8 + (Y'.2.2.1 + 11) + d'.2 ≤ d.2) (hM : z_Sp Y' d' mc ms (.ref k :: As) M (fun r M' => r = some v ∧ M' = M1)) (kk : z_Ev Y d kc ks q L (v :: S) M1 Q) : z_Ev Y d kc1 ks1 pc L S0 M Q := by
  subst hkc
  subst hks
  exact ev_callV hd hl.1 hl.2.1 hl.2.2.1 hl.2.2.2 hO hcl hn hS8 hSr hst hq hdd hM (fun r M' h => by obtain ⟨rfl, rfl⟩ := h; exact kk)
end
end
section
-- numbers: sums, searches, columns
abbrev z_Sg : Type := Nat → Int → Int
def zb (p : Bool) : Int := if p = true then 1 else 0
theorem zb_t {p : Bool} (h : p = true) : zb p = 1 := by simp [zb, h]
theorem zb_f {p : Bool} (h : p = false) : zb p = 0 := by simp [zb, h]
theorem zb_01 (p : Bool) : zb p = 0 ∨ zb p = 1 := by cases p <;> simp [zb]
theorem zb_rg (p : Bool) : z_rg (zb p) := by rcases zb_01 p with h | h <;> rw [h] <;> exact ⟨by omega, by omega⟩
theorem zb_ne {p : Bool} (h : zb p ≠ 0) : p = true := by cases p <;> simp [zb] at h ⊢
theorem zb_eq {p : Bool} (h : zb p = 0) : p = false := by cases p <;> simp [zb] at h ⊢
def z_up (σ : z_Sg) (c : Nat) (i v : Int) : z_Sg := fun c' => if c' = c then zup (σ c) i v else σ c'
theorem z_up_s {σ : z_Sg} {c : Nat} {i v : Int} : z_up σ c i v c = zup (σ c) i v := by simp [z_up]
theorem z_up_n {σ : z_Sg} {c c' : Nat} {i v : Int} (h : c' ≠ c) : z_up σ c i v c' = σ c' := by simp [z_up, h]
def anyZ (n : Int) (p : Int → Bool) : Bool := (List.range n.toNat).any (fun k => p (k : Int))
theorem anyZ_t {n : Int} {p : Int → Bool} (k : Int) (h0 : 0 ≤ k) (h1 : k < n) (h : p k = true) : anyZ n p = true := by
  unfold anyZ
  rw [List.any_eq_true]
  refine ⟨k.toNat, List.mem_range.mpr (by omega), ?_⟩
  rw [Int.toNat_of_nonneg h0]
  exact h
theorem anyZ_f {n : Int} {p : Int → Bool} (h : ∀ k : Int, 0 ≤ k → k < n → p k = false) : anyZ n p = false := by
  unfold anyZ
  rw [List.any_eq_false]
  intro k hk
  rw [List.mem_range] at hk
  rw [h (k : Int) (by omega) (by omega)]
  decide
theorem anyZ_iff {n : Int} {p : Int → Bool} : anyZ n p = true ↔ ∃ k : Int, 0 ≤ k ∧ k < n ∧ p k = true := by
  constructor
  · intro h
    unfold anyZ at h
    rw [List.any_eq_true] at h
    obtain ⟨k, hk, h⟩ := h
    rw [List.mem_range] at hk
    exact ⟨k, by omega, by omega, h⟩
  · rintro ⟨k, h0, h1, h⟩
    exact anyZ_t k h0 h1 h
theorem anyZ_congr {n : Int} {p q : Int → Bool} (h : ∀ k : Int, 0 ≤ k → k < n → p k = q k) : anyZ n p = anyZ n q := by
  rw [Bool.eq_iff_iff, anyZ_iff, anyZ_iff]
  constructor
  · rintro ⟨k, h0, h1, h2⟩
    exact ⟨k, h0, h1, by rw [← h k h0 h1]; exact h2⟩
  · rintro ⟨k, h0, h1, h2⟩
    exact ⟨k, h0, h1, by rw [h k h0 h1]; exact h2⟩
def sumN (f : Int → Int) : Nat → Int
  | 0 => 0
  | n + 1 => sumN f n + f (n : Int)
def sumZ (n : Int) (f : Int → Int) : Int := sumN f n.toNat
theorem sumZ_0 {f : Int → Int} : sumZ 0 f = 0 := rfl
theorem sumZ_s {f : Int → Int} {n : Int} (h : 0 ≤ n) : sumZ (n + 1) f = sumZ n f + f n := by
  unfold sumZ
  rw [show (n + 1).toNat = n.toNat + 1 by omega, sumN, Int.toNat_of_nonneg h]
theorem sumN_congr {f g : Int → Int} : ∀ n : Nat, (∀ k : Int, 0 ≤ k → k < n → f k = g k) → sumN f n = sumN g n := by
  intro n
  induction n with
  | zero => intro _; rfl
  | succ n ih =>
    intro h
    rw [sumN, sumN, ih (fun k h0 h1 => h k h0 (by omega)), h (n : Int) (by omega) (by omega)]
theorem sumZ_congr {n : Int} {f g : Int → Int} (h : ∀ k : Int, 0 ≤ k → k < n → f k = g k) : sumZ n f = sumZ n g :=
  sumN_congr n.toNat (fun k h0 h1 => h k h0 (by omega))
theorem sumN_bound {f : Int → Int} {b : Int} : ∀ n : Nat, (∀ k : Int, 0 ≤ k → k < n → 0 ≤ f k ∧ f k ≤ b) → 0 ≤ sumN f n ∧ sumN f n ≤ b * n := by
  intro n
  induction n with
  | zero => intro _; simp [sumN]
  | succ n ih =>
    intro h
    have h1 := ih (fun k h0 h1 => h k h0 (by omega))
    have h2 := h (n : Int) (by omega) (by omega)
    rw [sumN]
    have h3 : b * ((n + 1 : Nat) : Int) = b * n + b := by rw [Int.natCast_add, Int.mul_add]; simp
    omega
theorem z_loop {P : Int → Prop} {n : Int} (h1 : P n) (h2 : ∀ k : Int, 0 ≤ k → k < n → P (k + 1) → P k) : ∀ k : Int, 0 ≤ k → k ≤ n → P k := by
  have key : ∀ (j : Nat) (k : Int), 0 ≤ k → k + j = n → P k := by
    intro j
    induction j with
    | zero => intro k _ hk; rw [show k = n by omega]; exact h1
    | succ j ih => intro k h0 hk; exact h2 k h0 (by omega) (ih (k + 1) (by omega) (by omega))
  intro k h0 hk
  exact key (n - k).toNat k h0 (by omega)
end
section
-- words of the tables, by their places (written by wip/whole/mknames.py)
theorem wzW : Cond.initialized "NotaryHallLaw" ∈ z_ws := z_in (i := 56) (by decide +kernel) rfl
theorem wzH : Cond.initialized "NotaryHall" ∈ z_ws := z_in (i := 57) (by decide +kernel) rfl
theorem wzN : Cond.initialized "NotaryHall$Node" ∈ z_ws := z_in (i := 58) (by decide +kernel) rfl
theorem wzB : Cond.initialized "NotaryHall$Mailbox" ∈ z_ws := z_in (i := 59) (by decide +kernel) rfl
theorem wzJA : Cond.initialized "java/util/Arrays" ∈ z_ws := z_in (i := 60) (by decide +kernel) rfl
theorem wzR : Cond.initialized "NotaryHallModel" ∈ z_ws := z_in (i := 61) (by decide +kernel) rfl
theorem wzT : Cond.initialized "NotaryHall$Transaction" ∈ z_ws := z_in (i := 62) (by decide +kernel) rfl
theorem wzL : Cond.initialized "NotaryHall$StateList" ∈ z_ws := z_in (i := 63) (by decide +kernel) rfl
theorem wzS : Cond.initialized "NotaryHall$State" ∈ z_ws := z_in (i := 64) (by decide +kernel) rfl
theorem wzJM : Cond.initialized "java/lang/Math" ∈ z_ws := z_in (i := 65) (by decide +kernel) rfl
theorem wzJI : Cond.initialized "java/lang/Integer" ∈ z_ws := z_in (i := 66) (by decide +kernel) rfl
theorem wcW_7 : Cond.classLink "NotaryHallLaw" 7 "NotaryHall" ∈ z_ws := z_in (i := 67) (by decide +kernel) rfl
theorem wqH : Cond.instantiable "NotaryHall" 8 ∈ z_ws := z_in (i := 68) (by decide +kernel) rfl
theorem wmW_9 : Cond.methodLink "NotaryHallLaw" 9 ⟨"NotaryHall", "<init>", "()V"⟩ ∈ z_ws := z_in (i := 69) (by decide +kernel) rfl
theorem wiH_init : Cond.instanceMethod ⟨"NotaryHall", "<init>", "()V"⟩ ∈ z_ws := z_in (i := 70) (by decide +kernel) rfl
theorem wmH_3 : Cond.methodLink "NotaryHall" 3 ⟨"java/lang/Object", "<init>", "()V"⟩ ∈ z_ws := z_in (i := 72) (by decide +kernel) rfl
theorem wiJO_init : Cond.instanceMethod ⟨"java/lang/Object", "<init>", "()V"⟩ ∈ z_ws := z_in (i := 73) (by decide +kernel) rfl
theorem wcH_9 : Cond.classLink "NotaryHall" 9 "NotaryHall$Transaction" ∈ z_ws := z_in (i := 75) (by decide +kernel) rfl
theorem wcH_15 : Cond.classLink "NotaryHall" 15 "NotaryHall$Node" ∈ z_ws := z_in (i := 77) (by decide +kernel) rfl
theorem wqN : Cond.instantiable "NotaryHall$Node" 4 ∈ z_ws := z_in (i := 79) (by decide +kernel) rfl
theorem wmH_21 : Cond.methodLink "NotaryHall" 21 ⟨"NotaryHall$Node", "<init>", "()V"⟩ ∈ z_ws := z_in (i := 80) (by decide +kernel) rfl
theorem wiN_init : Cond.instanceMethod ⟨"NotaryHall$Node", "<init>", "()V"⟩ ∈ z_ws := z_in (i := 81) (by decide +kernel) rfl
theorem wmN_3 : Cond.methodLink "NotaryHall$Node" 3 ⟨"java/lang/Object", "<init>", "()V"⟩ ∈ z_ws := z_in (i := 83) (by decide +kernel) rfl
theorem wtH_bit : Cond.static ⟨"NotaryHall", "bit", "(I)I"⟩ ∈ z_ws := z_in (i := 85) (by decide +kernel) rfl
theorem wfN_22 : Cond.fieldLink "NotaryHall$Node" 22 "NotaryHall$Node" "known" "I" ∈ z_ws := z_in (i := 87) (by decide +kernel) rfl
theorem wfH_74 : Cond.fieldLink "NotaryHall" 74 "NotaryHall$Node" "known" "I" ∈ z_ws := z_in (i := 88) (by decide +kernel) rfl
theorem wfN_30 : Cond.fieldLink "NotaryHall$Node" 30 "NotaryHall$Node" "recorded" "I" ∈ z_ws := z_in (i := 89) (by decide +kernel) rfl
theorem wfH_199 : Cond.fieldLink "NotaryHall" 199 "NotaryHall$Node" "recorded" "I" ∈ z_ws := z_in (i := 90) (by decide +kernel) rfl
theorem wfN_19 : Cond.fieldLink "NotaryHall$Node" 19 "NotaryHall$Node" "fetchedCount" "I" ∈ z_ws := z_in (i := 91) (by decide +kernel) rfl
theorem wfH_209 : Cond.fieldLink "NotaryHall" 209 "NotaryHall$Node" "fetchedCount" "I" ∈ z_ws := z_in (i := 92) (by decide +kernel) rfl
theorem wfN_13 : Cond.fieldLink "NotaryHall$Node" 13 "NotaryHall$Node" "consents" "I" ∈ z_ws := z_in (i := 93) (by decide +kernel) rfl
theorem wfH_183 : Cond.fieldLink "NotaryHall" 183 "NotaryHall$Node" "consents" "I" ∈ z_ws := z_in (i := 94) (by decide +kernel) rfl
theorem wcH_22 : Cond.classLink "NotaryHall" 22 "NotaryHall$Mailbox" ∈ z_ws := z_in (i := 104) (by decide +kernel) rfl
theorem wqB : Cond.instantiable "NotaryHall$Mailbox" 2 ∈ z_ws := z_in (i := 105) (by decide +kernel) rfl
theorem wmH_24 : Cond.methodLink "NotaryHall" 24 ⟨"NotaryHall$Mailbox", "<init>", "()V"⟩ ∈ z_ws := z_in (i := 106) (by decide +kernel) rfl
theorem wiB_init : Cond.instanceMethod ⟨"NotaryHall$Mailbox", "<init>", "()V"⟩ ∈ z_ws := z_in (i := 107) (by decide +kernel) rfl
theorem wmB_3 : Cond.methodLink "NotaryHall$Mailbox" 3 ⟨"java/lang/Object", "<init>", "()V"⟩ ∈ z_ws := z_in (i := 109) (by decide +kernel) rfl
theorem wfB_9 : Cond.fieldLink "NotaryHall$Mailbox" 9 "NotaryHall$Mailbox" "codes" "[I" ∈ z_ws := z_in (i := 110) (by decide +kernel) rfl
theorem wfH_166 : Cond.fieldLink "NotaryHall" 166 "NotaryHall$Mailbox" "codes" "[I" ∈ z_ws := z_in (i := 111) (by decide +kernel) rfl
theorem wfB_15 : Cond.fieldLink "NotaryHall$Mailbox" 15 "NotaryHall$Mailbox" "count" "I" ∈ z_ws := z_in (i := 112) (by decide +kernel) rfl
theorem wfH_177 : Cond.fieldLink "NotaryHall" 177 "NotaryHall$Mailbox" "count" "I" ∈ z_ws := z_in (i := 113) (by decide +kernel) rfl
theorem wa_int : Cond.arrayClass .int ∈ z_ws := z_in (i := 119) (by decide +kernel) rfl
theorem wmH_33 : Cond.methodLink "NotaryHall" 33 ⟨"java/util/Arrays", "fill", "([II)V"⟩ ∈ z_ws := z_in (i := 120) (by decide +kernel) rfl
theorem wtJA_fill : Cond.static ⟨"java/util/Arrays", "fill", "([II)V"⟩ ∈ z_ws := z_in (i := 121) (by decide +kernel) rfl
theorem wfH_11 : Cond.fieldLink "NotaryHall" 11 "NotaryHall" "transactions" "[LNotaryHall$Transaction;" ∈ z_ws := z_in (i := 123) (by decide +kernel) rfl
theorem wfH_53 : Cond.fieldLink "NotaryHall" 53 "NotaryHall" "transactionCount" "I" ∈ z_ws := z_in (i := 124) (by decide +kernel) rfl
theorem wfH_17 : Cond.fieldLink "NotaryHall" 17 "NotaryHall" "nodes" "[LNotaryHall$Node;" ∈ z_ws := z_in (i := 125) (by decide +kernel) rfl
theorem wfH_25 : Cond.fieldLink "NotaryHall" 25 "NotaryHall" "mailbox" "LNotaryHall$Mailbox;" ∈ z_ws := z_in (i := 126) (by decide +kernel) rfl
theorem wfH_29 : Cond.fieldLink "NotaryHall" 29 "NotaryHall" "spenders" "[I" ∈ z_ws := z_in (i := 127) (by decide +kernel) rfl
theorem wfH_39 : Cond.fieldLink "NotaryHall" 39 "NotaryHall" "coins" "[I" ∈ z_ws := z_in (i := 128) (by decide +kernel) rfl
theorem wfH_42 : Cond.fieldLink "NotaryHall" 42 "NotaryHall" "treeRow" "[I" ∈ z_ws := z_in (i := 129) (by decide +kernel) rfl
theorem wfH_180 : Cond.fieldLink "NotaryHall" 180 "NotaryHall" "clock" "I" ∈ z_ws := z_in (i := 130) (by decide +kernel) rfl
theorem wmW_13 : Cond.methodLink "NotaryHallLaw" 13 ⟨"NotaryHall", "begin", "(IIII)I"⟩ ∈ z_ws := z_in (i := 148) (by decide +kernel) rfl
theorem wiH_begin : Cond.instanceMethod ⟨"NotaryHall", "begin", "(IIII)I"⟩ ∈ z_ws := z_in (i := 149) (by decide +kernel) rfl
theorem wvH_begin : Cond.selects "NotaryHall" ⟨"NotaryHall", "begin", "(IIII)I"⟩ ⟨"NotaryHall", "begin", "(IIII)I"⟩ ∈ z_ws := z_in (i := 150) (by decide +kernel) rfl
theorem wmH_45 : Cond.methodLink "NotaryHall" 45 ⟨"NotaryHall", "isNode", "(I)Z"⟩ ∈ z_ws := z_in (i := 152) (by decide +kernel) rfl
theorem wtH_isNode : Cond.static ⟨"NotaryHall", "isNode", "(I)Z"⟩ ∈ z_ws := z_in (i := 153) (by decide +kernel) rfl
theorem wmH_49 : Cond.methodLink "NotaryHall" 49 ⟨"NotaryHall", "isNotary", "(I)Z"⟩ ∈ z_ws := z_in (i := 155) (by decide +kernel) rfl
theorem wtH_isNotary : Cond.static ⟨"NotaryHall", "isNotary", "(I)Z"⟩ ∈ z_ws := z_in (i := 156) (by decide +kernel) rfl
theorem wkH_52 : Cond.constant "NotaryHall" 52 1000000 ∈ z_ws := z_in (i := 158) (by decide +kernel) rfl
theorem wqT : Cond.instantiable "NotaryHall$Transaction" 15 ∈ z_ws := z_in (i := 159) (by decide +kernel) rfl
theorem wmH_57 : Cond.methodLink "NotaryHall" 57 ⟨"NotaryHall$Transaction", "<init>", "(IIIII)V"⟩ ∈ z_ws := z_in (i := 160) (by decide +kernel) rfl
theorem wiT_init : Cond.instanceMethod ⟨"NotaryHall$Transaction", "<init>", "(IIIII)V"⟩ ∈ z_ws := z_in (i := 161) (by decide +kernel) rfl
theorem wmT_3 : Cond.methodLink "NotaryHall$Transaction" 3 ⟨"java/lang/Object", "<init>", "()V"⟩ ∈ z_ws := z_in (i := 163) (by decide +kernel) rfl
theorem wcT_27 : Cond.classLink "NotaryHall$Transaction" 27 "NotaryHall$StateList" ∈ z_ws := z_in (i := 164) (by decide +kernel) rfl
theorem wqL : Cond.instantiable "NotaryHall$StateList" 2 ∈ z_ws := z_in (i := 165) (by decide +kernel) rfl
theorem wmT_29 : Cond.methodLink "NotaryHall$Transaction" 29 ⟨"NotaryHall$StateList", "<init>", "()V"⟩ ∈ z_ws := z_in (i := 166) (by decide +kernel) rfl
theorem wiL_init : Cond.instanceMethod ⟨"NotaryHall$StateList", "<init>", "()V"⟩ ∈ z_ws := z_in (i := 167) (by decide +kernel) rfl
theorem wmL_3 : Cond.methodLink "NotaryHall$StateList" 3 ⟨"java/lang/Object", "<init>", "()V"⟩ ∈ z_ws := z_in (i := 169) (by decide +kernel) rfl
theorem wcL_9 : Cond.classLink "NotaryHall$StateList" 9 "NotaryHall$State" ∈ z_ws := z_in (i := 170) (by decide +kernel) rfl
theorem wfL_11 : Cond.fieldLink "NotaryHall$StateList" 11 "NotaryHall$StateList" "states" "[LNotaryHall$State;" ∈ z_ws := z_in (i := 172) (by decide +kernel) rfl
theorem wfT_93 : Cond.fieldLink "NotaryHall$Transaction" 93 "NotaryHall$StateList" "states" "[LNotaryHall$State;" ∈ z_ws := z_in (i := 173) (by decide +kernel) rfl
theorem wfH_300 : Cond.fieldLink "NotaryHall" 300 "NotaryHall$StateList" "states" "[LNotaryHall$State;" ∈ z_ws := z_in (i := 174) (by decide +kernel) rfl
theorem wfL_17 : Cond.fieldLink "NotaryHall$StateList" 17 "NotaryHall$StateList" "count" "I" ∈ z_ws := z_in (i := 175) (by decide +kernel) rfl
theorem wfT_56 : Cond.fieldLink "NotaryHall$Transaction" 56 "NotaryHall$StateList" "count" "I" ∈ z_ws := z_in (i := 176) (by decide +kernel) rfl
theorem wfH_299 : Cond.fieldLink "NotaryHall" 299 "NotaryHall$StateList" "count" "I" ∈ z_ws := z_in (i := 177) (by decide +kernel) rfl
theorem wfT_9 : Cond.fieldLink "NotaryHall$Transaction" 9 "NotaryHall$Transaction" "number" "I" ∈ z_ws := z_in (i := 183) (by decide +kernel) rfl
theorem wfH_281 : Cond.fieldLink "NotaryHall" 281 "NotaryHall$Transaction" "number" "I" ∈ z_ws := z_in (i := 184) (by decide +kernel) rfl
theorem wfT_15 : Cond.fieldLink "NotaryHall$Transaction" 15 "NotaryHall$Transaction" "initiator" "I" ∈ z_ws := z_in (i := 185) (by decide +kernel) rfl
theorem wfH_71 : Cond.fieldLink "NotaryHall" 71 "NotaryHall$Transaction" "initiator" "I" ∈ z_ws := z_in (i := 186) (by decide +kernel) rfl
theorem wfT_18 : Cond.fieldLink "NotaryHall$Transaction" 18 "NotaryHall$Transaction" "notary" "I" ∈ z_ws := z_in (i := 187) (by decide +kernel) rfl
theorem wfH_81 : Cond.fieldLink "NotaryHall" 81 "NotaryHall$Transaction" "notary" "I" ∈ z_ws := z_in (i := 188) (by decide +kernel) rfl
theorem wfT_21 : Cond.fieldLink "NotaryHall$Transaction" 21 "NotaryHall$Transaction" "from" "I" ∈ z_ws := z_in (i := 189) (by decide +kernel) rfl
theorem wfH_289 : Cond.fieldLink "NotaryHall" 289 "NotaryHall$Transaction" "from" "I" ∈ z_ws := z_in (i := 190) (by decide +kernel) rfl
theorem wfT_24 : Cond.fieldLink "NotaryHall$Transaction" 24 "NotaryHall$Transaction" "until" "I" ∈ z_ws := z_in (i := 191) (by decide +kernel) rfl
theorem wfH_292 : Cond.fieldLink "NotaryHall" 292 "NotaryHall$Transaction" "until" "I" ∈ z_ws := z_in (i := 192) (by decide +kernel) rfl
theorem wfT_30 : Cond.fieldLink "NotaryHall$Transaction" 30 "NotaryHall$Transaction" "inputs" "LNotaryHall$StateList;" ∈ z_ws := z_in (i := 193) (by decide +kernel) rfl
theorem wfH_84 : Cond.fieldLink "NotaryHall" 84 "NotaryHall$Transaction" "inputs" "LNotaryHall$StateList;" ∈ z_ws := z_in (i := 194) (by decide +kernel) rfl
theorem wfT_34 : Cond.fieldLink "NotaryHall$Transaction" 34 "NotaryHall$Transaction" "outputs" "LNotaryHall$StateList;" ∈ z_ws := z_in (i := 195) (by decide +kernel) rfl
theorem wfH_112 : Cond.fieldLink "NotaryHall" 112 "NotaryHall$Transaction" "outputs" "LNotaryHall$StateList;" ∈ z_ws := z_in (i := 196) (by decide +kernel) rfl
theorem wfT_43 : Cond.fieldLink "NotaryHall$Transaction" 43 "NotaryHall$Transaction" "ancestors" "I" ∈ z_ws := z_in (i := 197) (by decide +kernel) rfl
theorem wfH_258 : Cond.fieldLink "NotaryHall" 258 "NotaryHall$Transaction" "ancestors" "I" ∈ z_ws := z_in (i := 198) (by decide +kernel) rfl
theorem wfT_37 : Cond.fieldLink "NotaryHall$Transaction" 37 "NotaryHall$Transaction" "stage" "I" ∈ z_ws := z_in (i := 199) (by decide +kernel) rfl
theorem wfH_68 : Cond.fieldLink "NotaryHall" 68 "NotaryHall$Transaction" "stage" "I" ∈ z_ws := z_in (i := 200) (by decide +kernel) rfl
theorem wfT_79 : Cond.fieldLink "NotaryHall$Transaction" 79 "NotaryHall$Transaction" "needed" "I" ∈ z_ws := z_in (i := 201) (by decide +kernel) rfl
theorem wfH_156 : Cond.fieldLink "NotaryHall" 156 "NotaryHall$Transaction" "needed" "I" ∈ z_ws := z_in (i := 202) (by decide +kernel) rfl
theorem wfT_89 : Cond.fieldLink "NotaryHall$Transaction" 89 "NotaryHall$Transaction" "sound" "Z" ∈ z_ws := z_in (i := 203) (by decide +kernel) rfl
theorem wfH_282 : Cond.fieldLink "NotaryHall" 282 "NotaryHall$Transaction" "sound" "Z" ∈ z_ws := z_in (i := 204) (by decide +kernel) rfl
theorem wfT_72 : Cond.fieldLink "NotaryHall$Transaction" 72 "NotaryHall$Transaction" "signed" "I" ∈ z_ws := z_in (i := 205) (by decide +kernel) rfl
theorem wfH_193 : Cond.fieldLink "NotaryHall" 193 "NotaryHall$Transaction" "signed" "I" ∈ z_ws := z_in (i := 206) (by decide +kernel) rfl
theorem wfT_62 : Cond.fieldLink "NotaryHall$Transaction" 62 "NotaryHall$Transaction" "decided" "I" ∈ z_ws := z_in (i := 207) (by decide +kernel) rfl
theorem wfT_69 : Cond.fieldLink "NotaryHall$Transaction" 69 "NotaryHall$Transaction" "agreed" "I" ∈ z_ws := z_in (i := 208) (by decide +kernel) rfl
theorem wfH_255 : Cond.fieldLink "NotaryHall" 255 "NotaryHall$Transaction" "agreed" "I" ∈ z_ws := z_in (i := 209) (by decide +kernel) rfl
theorem wfT_40 : Cond.fieldLink "NotaryHall$Transaction" 40 "NotaryHall$Transaction" "verdict" "I" ∈ z_ws := z_in (i := 210) (by decide +kernel) rfl
theorem wfH_196 : Cond.fieldLink "NotaryHall" 196 "NotaryHall$Transaction" "verdict" "I" ∈ z_ws := z_in (i := 211) (by decide +kernel) rfl
theorem wmW_18 : Cond.methodLink "NotaryHallLaw" 18 ⟨"NotaryHall", "consume", "(III)I"⟩ ∈ z_ws := z_in (i := 243) (by decide +kernel) rfl
theorem wiH_consume : Cond.instanceMethod ⟨"NotaryHall", "consume", "(III)I"⟩ ∈ z_ws := z_in (i := 244) (by decide +kernel) rfl
theorem wvH_consume : Cond.selects "NotaryHall" ⟨"NotaryHall", "consume", "(III)I"⟩ ⟨"NotaryHall", "consume", "(III)I"⟩ ∈ z_ws := z_in (i := 245) (by decide +kernel) rfl
theorem wmH_60 : Cond.methodLink "NotaryHall" 60 ⟨"NotaryHall", "find", "(I)LNotaryHall$Transaction;"⟩ ∈ z_ws := z_in (i := 247) (by decide +kernel) rfl
theorem wiH_find : Cond.instanceMethod ⟨"NotaryHall", "find", "(I)LNotaryHall$Transaction;"⟩ ∈ z_ws := z_in (i := 249) (by decide +kernel) rfl
theorem wmH_64 : Cond.methodLink "NotaryHall" 64 ⟨"NotaryHall", "findState", "(II)LNotaryHall$State;"⟩ ∈ z_ws := z_in (i := 251) (by decide +kernel) rfl
theorem wiH_findState : Cond.instanceMethod ⟨"NotaryHall", "findState", "(II)LNotaryHall$State;"⟩ ∈ z_ws := z_in (i := 253) (by decide +kernel) rfl
theorem wmH_77 : Cond.methodLink "NotaryHall" 77 ⟨"NotaryHall", "has", "(II)Z"⟩ ∈ z_ws := z_in (i := 255) (by decide +kernel) rfl
theorem wtH_has : Cond.static ⟨"NotaryHall", "has", "(II)Z"⟩ ∈ z_ws := z_in (i := 256) (by decide +kernel) rfl
theorem wmH_186 : Cond.methodLink "NotaryHall" 186 ⟨"NotaryHall", "bit", "(I)I"⟩ ∈ z_ws := z_in (i := 258) (by decide +kernel) rfl
theorem wmH_93 : Cond.methodLink "NotaryHall" 93 ⟨"NotaryHall$StateList", "holds", "(I)Z"⟩ ∈ z_ws := z_in (i := 259) (by decide +kernel) rfl
theorem wiL_holds : Cond.instanceMethod ⟨"NotaryHall$StateList", "holds", "(I)Z"⟩ ∈ z_ws := z_in (i := 260) (by decide +kernel) rfl
theorem wvL_holds : Cond.selects "NotaryHall$StateList" ⟨"NotaryHall$StateList", "holds", "(I)Z"⟩ ⟨"NotaryHall$StateList", "holds", "(I)Z"⟩ ∈ z_ws := z_in (i := 261) (by decide +kernel) rfl
theorem wmH_98 : Cond.methodLink "NotaryHall" 98 ⟨"NotaryHall$StateList", "hasRoomFor", "(I)Z"⟩ ∈ z_ws := z_in (i := 263) (by decide +kernel) rfl
theorem wiL_hasRoomFor : Cond.instanceMethod ⟨"NotaryHall$StateList", "hasRoomFor", "(I)Z"⟩ ∈ z_ws := z_in (i := 264) (by decide +kernel) rfl
theorem wvL_hasRoomFor : Cond.selects "NotaryHall$StateList" ⟨"NotaryHall$StateList", "hasRoomFor", "(I)Z"⟩ ⟨"NotaryHall$StateList", "hasRoomFor", "(I)Z"⟩ ∈ z_ws := z_in (i := 265) (by decide +kernel) rfl
theorem wmH_101 : Cond.methodLink "NotaryHall" 101 ⟨"NotaryHall$Transaction", "addInput", "(LNotaryHall$State;LNotaryHall$Transaction;)I"⟩ ∈ z_ws := z_in (i := 267) (by decide +kernel) rfl
theorem wiT_addInput : Cond.instanceMethod ⟨"NotaryHall$Transaction", "addInput", "(LNotaryHall$State;LNotaryHall$Transaction;)I"⟩ ∈ z_ws := z_in (i := 268) (by decide +kernel) rfl
theorem wvT_addInput : Cond.selects "NotaryHall$Transaction" ⟨"NotaryHall$Transaction", "addInput", "(LNotaryHall$State;LNotaryHall$Transaction;)I"⟩ ⟨"NotaryHall$Transaction", "addInput", "(LNotaryHall$State;LNotaryHall$Transaction;)I"⟩ ∈ z_ws := z_in (i := 269) (by decide +kernel) rfl
theorem wmT_50 : Cond.methodLink "NotaryHall$Transaction" 50 ⟨"NotaryHall$StateList", "add", "(LNotaryHall$State;)I"⟩ ∈ z_ws := z_in (i := 272) (by decide +kernel) rfl
theorem wiL_add : Cond.instanceMethod ⟨"NotaryHall$StateList", "add", "(LNotaryHall$State;)I"⟩ ∈ z_ws := z_in (i := 273) (by decide +kernel) rfl
theorem wvL_add : Cond.selects "NotaryHall$StateList" ⟨"NotaryHall$StateList", "add", "(LNotaryHall$State;)I"⟩ ⟨"NotaryHall$StateList", "add", "(LNotaryHall$State;)I"⟩ ∈ z_ws := z_in (i := 274) (by decide +kernel) rfl
theorem wmW_23 : Cond.methodLink "NotaryHallLaw" 23 ⟨"NotaryHall", "produce", "(IIIII)I"⟩ ∈ z_ws := z_in (i := 276) (by decide +kernel) rfl
theorem wiH_produce : Cond.instanceMethod ⟨"NotaryHall", "produce", "(IIIII)I"⟩ ∈ z_ws := z_in (i := 277) (by decide +kernel) rfl
theorem wvH_produce : Cond.selects "NotaryHall" ⟨"NotaryHall", "produce", "(IIIII)I"⟩ ⟨"NotaryHall", "produce", "(IIIII)I"⟩ ∈ z_ws := z_in (i := 278) (by decide +kernel) rfl
theorem wmH_105 : Cond.methodLink "NotaryHall" 105 ⟨"NotaryHall", "isContent", "(III)Z"⟩ ∈ z_ws := z_in (i := 280) (by decide +kernel) rfl
theorem wtH_isContent : Cond.static ⟨"NotaryHall", "isContent", "(III)Z"⟩ ∈ z_ws := z_in (i := 281) (by decide +kernel) rfl
theorem wmH_109 : Cond.methodLink "NotaryHall" 109 ⟨"NotaryHall", "isAmount", "(I)Z"⟩ ∈ z_ws := z_in (i := 283) (by decide +kernel) rfl
theorem wtH_isAmount : Cond.static ⟨"NotaryHall", "isAmount", "(I)Z"⟩ ∈ z_ws := z_in (i := 284) (by decide +kernel) rfl
theorem wmH_115 : Cond.methodLink "NotaryHall" 115 ⟨"NotaryHall$Transaction", "addOutput", "(IIII)I"⟩ ∈ z_ws := z_in (i := 286) (by decide +kernel) rfl
theorem wiT_addOutput : Cond.instanceMethod ⟨"NotaryHall$Transaction", "addOutput", "(IIII)I"⟩ ∈ z_ws := z_in (i := 287) (by decide +kernel) rfl
theorem wvT_addOutput : Cond.selects "NotaryHall$Transaction" ⟨"NotaryHall$Transaction", "addOutput", "(IIII)I"⟩ ⟨"NotaryHall$Transaction", "addOutput", "(IIII)I"⟩ ∈ z_ws := z_in (i := 288) (by decide +kernel) rfl
theorem wcT_54 : Cond.classLink "NotaryHall$Transaction" 54 "NotaryHall$State" ∈ z_ws := z_in (i := 290) (by decide +kernel) rfl
theorem wqS : Cond.instantiable "NotaryHall$State" 6 ∈ z_ws := z_in (i := 291) (by decide +kernel) rfl
theorem wmT_59 : Cond.methodLink "NotaryHall$Transaction" 59 ⟨"NotaryHall$State", "<init>", "(IIIII)V"⟩ ∈ z_ws := z_in (i := 292) (by decide +kernel) rfl
theorem wiS_init : Cond.instanceMethod ⟨"NotaryHall$State", "<init>", "(IIIII)V"⟩ ∈ z_ws := z_in (i := 293) (by decide +kernel) rfl
theorem wmS_3 : Cond.methodLink "NotaryHall$State" 3 ⟨"java/lang/Object", "<init>", "()V"⟩ ∈ z_ws := z_in (i := 295) (by decide +kernel) rfl
theorem wfS_9 : Cond.fieldLink "NotaryHall$State" 9 "NotaryHall$State" "number" "I" ∈ z_ws := z_in (i := 296) (by decide +kernel) rfl
theorem wfH_88 : Cond.fieldLink "NotaryHall" 88 "NotaryHall$State" "number" "I" ∈ z_ws := z_in (i := 297) (by decide +kernel) rfl
theorem wfL_21 : Cond.fieldLink "NotaryHall$StateList" 21 "NotaryHall$State" "number" "I" ∈ z_ws := z_in (i := 298) (by decide +kernel) rfl
theorem wfT_153 : Cond.fieldLink "NotaryHall$Transaction" 153 "NotaryHall$State" "number" "I" ∈ z_ws := z_in (i := 299) (by decide +kernel) rfl
theorem wfS_15 : Cond.fieldLink "NotaryHall$State" 15 "NotaryHall$State" "kind" "I" ∈ z_ws := z_in (i := 300) (by decide +kernel) rfl
theorem wfT_111 : Cond.fieldLink "NotaryHall$Transaction" 111 "NotaryHall$State" "kind" "I" ∈ z_ws := z_in (i := 301) (by decide +kernel) rfl
theorem wfS_18 : Cond.fieldLink "NotaryHall$State" 18 "NotaryHall$State" "a" "I" ∈ z_ws := z_in (i := 302) (by decide +kernel) rfl
theorem wfS_21 : Cond.fieldLink "NotaryHall$State" 21 "NotaryHall$State" "b" "I" ∈ z_ws := z_in (i := 303) (by decide +kernel) rfl
theorem wfS_24 : Cond.fieldLink "NotaryHall$State" 24 "NotaryHall$State" "amount" "I" ∈ z_ws := z_in (i := 304) (by decide +kernel) rfl
theorem wfL_31 : Cond.fieldLink "NotaryHall$StateList" 31 "NotaryHall$State" "amount" "I" ∈ z_ws := z_in (i := 305) (by decide +kernel) rfl
theorem wfH_134 : Cond.fieldLink "NotaryHall" 134 "NotaryHall$State" "amount" "I" ∈ z_ws := z_in (i := 306) (by decide +kernel) rfl
theorem wfT_114 : Cond.fieldLink "NotaryHall$Transaction" 114 "NotaryHall$State" "amount" "I" ∈ z_ws := z_in (i := 307) (by decide +kernel) rfl
theorem wfS_27 : Cond.fieldLink "NotaryHall$State" 27 "NotaryHall$State" "boundTo" "I" ∈ z_ws := z_in (i := 308) (by decide +kernel) rfl
theorem wfH_119 : Cond.fieldLink "NotaryHall" 119 "NotaryHall$State" "boundTo" "I" ∈ z_ws := z_in (i := 309) (by decide +kernel) rfl
theorem wmW_28 : Cond.methodLink "NotaryHallLaw" 28 ⟨"NotaryHall", "bind", "(III)I"⟩ ∈ z_ws := z_in (i := 323) (by decide +kernel) rfl
theorem wiH_bind : Cond.instanceMethod ⟨"NotaryHall", "bind", "(III)I"⟩ ∈ z_ws := z_in (i := 324) (by decide +kernel) rfl
theorem wvH_bind : Cond.selects "NotaryHall" ⟨"NotaryHall", "bind", "(III)I"⟩ ⟨"NotaryHall", "bind", "(III)I"⟩ ∈ z_ws := z_in (i := 325) (by decide +kernel) rfl
theorem wmW_32 : Cond.methodLink "NotaryHallLaw" 32 ⟨"NotaryHall", "pay", "(IIII)I"⟩ ∈ z_ws := z_in (i := 327) (by decide +kernel) rfl
theorem wiH_pay : Cond.instanceMethod ⟨"NotaryHall", "pay", "(IIII)I"⟩ ∈ z_ws := z_in (i := 328) (by decide +kernel) rfl
theorem wvH_pay : Cond.selects "NotaryHall" ⟨"NotaryHall", "pay", "(IIII)I"⟩ ⟨"NotaryHall", "pay", "(IIII)I"⟩ ∈ z_ws := z_in (i := 329) (by decide +kernel) rfl
theorem wmH_122 : Cond.methodLink "NotaryHall" 122 ⟨"NotaryHall", "stateNumbersEnd", "()I"⟩ ∈ z_ws := z_in (i := 331) (by decide +kernel) rfl
theorem wiH_stateNumbersEnd : Cond.instanceMethod ⟨"NotaryHall", "stateNumbersEnd", "()I"⟩ ∈ z_ws := z_in (i := 333) (by decide +kernel) rfl
theorem wmH_126 : Cond.methodLink "NotaryHall" 126 ⟨"NotaryHall", "stateNumbered", "(I)LNotaryHall$State;"⟩ ∈ z_ws := z_in (i := 335) (by decide +kernel) rfl
theorem wiH_stateNumbered : Cond.instanceMethod ⟨"NotaryHall", "stateNumbered", "(I)LNotaryHall$State;"⟩ ∈ z_ws := z_in (i := 337) (by decide +kernel) rfl
theorem wmH_130 : Cond.methodLink "NotaryHall" 130 ⟨"NotaryHall", "isCoin", "(LNotaryHall$State;ILNotaryHall$Transaction;)Z"⟩ ∈ z_ws := z_in (i := 339) (by decide +kernel) rfl
theorem wiH_isCoin : Cond.instanceMethod ⟨"NotaryHall", "isCoin", "(LNotaryHall$State;ILNotaryHall$Transaction;)Z"⟩ ∈ z_ws := z_in (i := 341) (by decide +kernel) rfl
theorem wmH_206 : Cond.methodLink "NotaryHall" 206 ⟨"NotaryHall$State", "isCashIssuedBy", "(I)Z"⟩ ∈ z_ws := z_in (i := 343) (by decide +kernel) rfl
theorem wiS_isCashIssuedBy : Cond.instanceMethod ⟨"NotaryHall$State", "isCashIssuedBy", "(I)Z"⟩ ∈ z_ws := z_in (i := 344) (by decide +kernel) rfl
theorem wvS_isCashIssuedBy : Cond.selects "NotaryHall$State" ⟨"NotaryHall$State", "isCashIssuedBy", "(I)Z"⟩ ⟨"NotaryHall$State", "isCashIssuedBy", "(I)Z"⟩ ∈ z_ws := z_in (i := 345) (by decide +kernel) rfl
theorem wmH_323 : Cond.methodLink "NotaryHall" 323 ⟨"NotaryHall$State", "isBound", "()Z"⟩ ∈ z_ws := z_in (i := 347) (by decide +kernel) rfl
theorem wiS_isBound : Cond.instanceMethod ⟨"NotaryHall$State", "isBound", "()Z"⟩ ∈ z_ws := z_in (i := 348) (by decide +kernel) rfl
theorem wvS_isBound : Cond.selects "NotaryHall$State" ⟨"NotaryHall$State", "isBound", "()Z"⟩ ⟨"NotaryHall$State", "isBound", "()Z"⟩ ∈ z_ws := z_in (i := 349) (by decide +kernel) rfl
theorem wmH_311 : Cond.methodLink "NotaryHall" 311 ⟨"NotaryHall$State", "source", "()I"⟩ ∈ z_ws := z_in (i := 351) (by decide +kernel) rfl
theorem wiS_source : Cond.instanceMethod ⟨"NotaryHall$State", "source", "()I"⟩ ∈ z_ws := z_in (i := 352) (by decide +kernel) rfl
theorem wvS_source : Cond.selects "NotaryHall$State" ⟨"NotaryHall$State", "source", "()I"⟩ ⟨"NotaryHall$State", "source", "()I"⟩ ∈ z_ws := z_in (i := 353) (by decide +kernel) rfl
theorem wmH_202 : Cond.methodLink "NotaryHall" 202 ⟨"NotaryHall", "isInVault", "(LNotaryHall$State;I)Z"⟩ ∈ z_ws := z_in (i := 355) (by decide +kernel) rfl
theorem wiH_isInVault : Cond.instanceMethod ⟨"NotaryHall", "isInVault", "(LNotaryHall$State;I)Z"⟩ ∈ z_ws := z_in (i := 357) (by decide +kernel) rfl
theorem wmH_314 : Cond.methodLink "NotaryHall" 314 ⟨"NotaryHall$State", "concerns", "(I)Z"⟩ ∈ z_ws := z_in (i := 359) (by decide +kernel) rfl
theorem wiS_concerns : Cond.instanceMethod ⟨"NotaryHall$State", "concerns", "(I)Z"⟩ ∈ z_ws := z_in (i := 360) (by decide +kernel) rfl
theorem wvS_concerns : Cond.selects "NotaryHall$State" ⟨"NotaryHall$State", "concerns", "(I)Z"⟩ ⟨"NotaryHall$State", "concerns", "(I)Z"⟩ ∈ z_ws := z_in (i := 361) (by decide +kernel) rfl
theorem wmS_34 : Cond.methodLink "NotaryHall$State" 34 ⟨"NotaryHall$State", "isCashOwnedBy", "(I)Z"⟩ ∈ z_ws := z_in (i := 363) (by decide +kernel) rfl
theorem wiS_isCashOwnedBy : Cond.instanceMethod ⟨"NotaryHall$State", "isCashOwnedBy", "(I)Z"⟩ ∈ z_ws := z_in (i := 364) (by decide +kernel) rfl
theorem wvS_isCashOwnedBy : Cond.selects "NotaryHall$State" ⟨"NotaryHall$State", "isCashOwnedBy", "(I)Z"⟩ ⟨"NotaryHall$State", "isCashOwnedBy", "(I)Z"⟩ ∈ z_ws := z_in (i := 365) (by decide +kernel) rfl
theorem wmH_317 : Cond.methodLink "NotaryHall" 317 ⟨"NotaryHall", "isKnownInput", "(LNotaryHall$State;I)Z"⟩ ∈ z_ws := z_in (i := 367) (by decide +kernel) rfl
theorem wiH_isKnownInput : Cond.instanceMethod ⟨"NotaryHall", "isKnownInput", "(LNotaryHall$State;I)Z"⟩ ∈ z_ws := z_in (i := 369) (by decide +kernel) rfl
theorem wmH_326 : Cond.methodLink "NotaryHall" 326 ⟨"NotaryHall", "isHeld", "(LNotaryHall$State;I)Z"⟩ ∈ z_ws := z_in (i := 371) (by decide +kernel) rfl
theorem wiH_isHeld : Cond.instanceMethod ⟨"NotaryHall", "isHeld", "(LNotaryHall$State;I)Z"⟩ ∈ z_ws := z_in (i := 373) (by decide +kernel) rfl
theorem wmH_320 : Cond.methodLink "NotaryHall" 320 ⟨"NotaryHall$Transaction", "isOpen", "()Z"⟩ ∈ z_ws := z_in (i := 375) (by decide +kernel) rfl
theorem wiT_isOpen : Cond.instanceMethod ⟨"NotaryHall$Transaction", "isOpen", "()Z"⟩ ∈ z_ws := z_in (i := 376) (by decide +kernel) rfl
theorem wvT_isOpen : Cond.selects "NotaryHall$Transaction" ⟨"NotaryHall$Transaction", "isOpen", "()Z"⟩ ⟨"NotaryHall$Transaction", "isOpen", "()Z"⟩ ∈ z_ws := z_in (i := 377) (by decide +kernel) rfl
theorem wmH_137 : Cond.methodLink "NotaryHall" 137 ⟨"NotaryHall", "takeCoins", "(LNotaryHall$Transaction;I)V"⟩ ∈ z_ws := z_in (i := 379) (by decide +kernel) rfl
theorem wiH_takeCoins : Cond.instanceMethod ⟨"NotaryHall", "takeCoins", "(LNotaryHall$Transaction;I)V"⟩ ∈ z_ws := z_in (i := 381) (by decide +kernel) rfl
theorem wmW_36 : Cond.methodLink "NotaryHallLaw" 36 ⟨"NotaryHall", "drop", "(I)Z"⟩ ∈ z_ws := z_in (i := 383) (by decide +kernel) rfl
theorem wiH_drop : Cond.instanceMethod ⟨"NotaryHall", "drop", "(I)Z"⟩ ∈ z_ws := z_in (i := 384) (by decide +kernel) rfl
theorem wvH_drop : Cond.selects "NotaryHall" ⟨"NotaryHall", "drop", "(I)Z"⟩ ⟨"NotaryHall", "drop", "(I)Z"⟩ ∈ z_ws := z_in (i := 385) (by decide +kernel) rfl
theorem wmW_41 : Cond.methodLink "NotaryHallLaw" 41 ⟨"NotaryHall", "propose", "(IZ)I"⟩ ∈ z_ws := z_in (i := 387) (by decide +kernel) rfl
theorem wiH_propose : Cond.instanceMethod ⟨"NotaryHall", "propose", "(IZ)I"⟩ ∈ z_ws := z_in (i := 388) (by decide +kernel) rfl
theorem wvH_propose : Cond.selects "NotaryHall" ⟨"NotaryHall", "propose", "(IZ)I"⟩ ⟨"NotaryHall", "propose", "(IZ)I"⟩ ∈ z_ws := z_in (i := 389) (by decide +kernel) rfl
theorem wmH_141 : Cond.methodLink "NotaryHall" 141 ⟨"NotaryHall$Transaction", "isValid", "()Z"⟩ ∈ z_ws := z_in (i := 391) (by decide +kernel) rfl
theorem wiT_isValid : Cond.instanceMethod ⟨"NotaryHall$Transaction", "isValid", "()Z"⟩ ∈ z_ws := z_in (i := 392) (by decide +kernel) rfl
theorem wvT_isValid : Cond.selects "NotaryHall$Transaction" ⟨"NotaryHall$Transaction", "isValid", "()Z"⟩ ⟨"NotaryHall$Transaction", "isValid", "()Z"⟩ ∈ z_ws := z_in (i := 393) (by decide +kernel) rfl
theorem wmT_97 : Cond.methodLink "NotaryHall$Transaction" 97 ⟨"NotaryHall$Transaction", "allowsInput", "(LNotaryHall$State;)Z"⟩ ∈ z_ws := z_in (i := 395) (by decide +kernel) rfl
theorem wiT_allowsInput : Cond.instanceMethod ⟨"NotaryHall$Transaction", "allowsInput", "(LNotaryHall$State;)Z"⟩ ∈ z_ws := z_in (i := 397) (by decide +kernel) rfl
theorem wmT_101 : Cond.methodLink "NotaryHall$Transaction" 101 ⟨"NotaryHall$State", "isBound", "()Z"⟩ ∈ z_ws := z_in (i := 399) (by decide +kernel) rfl
theorem wmT_104 : Cond.methodLink "NotaryHall$Transaction" 104 ⟨"NotaryHall$State", "boundNumber", "()I"⟩ ∈ z_ws := z_in (i := 400) (by decide +kernel) rfl
theorem wiS_boundNumber : Cond.instanceMethod ⟨"NotaryHall$State", "boundNumber", "()I"⟩ ∈ z_ws := z_in (i := 401) (by decide +kernel) rfl
theorem wvS_boundNumber : Cond.selects "NotaryHall$State" ⟨"NotaryHall$State", "boundNumber", "()I"⟩ ⟨"NotaryHall$State", "boundNumber", "()I"⟩ ∈ z_ws := z_in (i := 402) (by decide +kernel) rfl
theorem wmS_30 : Cond.methodLink "NotaryHall$State" 30 ⟨"NotaryHall$State", "source", "()I"⟩ ∈ z_ws := z_in (i := 404) (by decide +kernel) rfl
theorem wmT_107 : Cond.methodLink "NotaryHall$Transaction" 107 ⟨"NotaryHall$StateList", "holds", "(I)Z"⟩ ∈ z_ws := z_in (i := 405) (by decide +kernel) rfl
theorem wmH_145 : Cond.methodLink "NotaryHall" 145 ⟨"NotaryHall$Transaction", "seal", "(Z)V"⟩ ∈ z_ws := z_in (i := 406) (by decide +kernel) rfl
theorem wiT_seal : Cond.instanceMethod ⟨"NotaryHall$Transaction", "seal", "(Z)V"⟩ ∈ z_ws := z_in (i := 407) (by decide +kernel) rfl
theorem wvT_seal : Cond.selects "NotaryHall$Transaction" ⟨"NotaryHall$Transaction", "seal", "(Z)V"⟩ ⟨"NotaryHall$Transaction", "seal", "(Z)V"⟩ ∈ z_ws := z_in (i := 408) (by decide +kernel) rfl
theorem wmT_75 : Cond.methodLink "NotaryHall$Transaction" 75 ⟨"NotaryHall$Transaction", "needs", "()I"⟩ ∈ z_ws := z_in (i := 410) (by decide +kernel) rfl
theorem wiT_needs : Cond.instanceMethod ⟨"NotaryHall$Transaction", "needs", "()I"⟩ ∈ z_ws := z_in (i := 411) (by decide +kernel) rfl
theorem wvT_needs : Cond.selects "NotaryHall$Transaction" ⟨"NotaryHall$Transaction", "needs", "()I"⟩ ⟨"NotaryHall$Transaction", "needs", "()I"⟩ ∈ z_ws := z_in (i := 412) (by decide +kernel) rfl
theorem wmT_117 : Cond.methodLink "NotaryHall$Transaction" 117 ⟨"NotaryHall$Transaction", "mustSign", "(I)Z"⟩ ∈ z_ws := z_in (i := 414) (by decide +kernel) rfl
theorem wiT_mustSign : Cond.instanceMethod ⟨"NotaryHall$Transaction", "mustSign", "(I)Z"⟩ ∈ z_ws := z_in (i := 416) (by decide +kernel) rfl
theorem wmT_120 : Cond.methodLink "NotaryHall$Transaction" 120 ⟨"NotaryHall$StateList", "holdsCashOwnedBy", "(I)Z"⟩ ∈ z_ws := z_in (i := 418) (by decide +kernel) rfl
theorem wiL_holdsCashOwnedBy : Cond.instanceMethod ⟨"NotaryHall$StateList", "holdsCashOwnedBy", "(I)Z"⟩ ∈ z_ws := z_in (i := 419) (by decide +kernel) rfl
theorem wvL_holdsCashOwnedBy : Cond.selects "NotaryHall$StateList" ⟨"NotaryHall$StateList", "holdsCashOwnedBy", "(I)Z"⟩ ⟨"NotaryHall$StateList", "holdsCashOwnedBy", "(I)Z"⟩ ∈ z_ws := z_in (i := 420) (by decide +kernel) rfl
theorem wmL_24 : Cond.methodLink "NotaryHall$StateList" 24 ⟨"NotaryHall$State", "isCashOwnedBy", "(I)Z"⟩ ∈ z_ws := z_in (i := 422) (by decide +kernel) rfl
theorem wmT_123 : Cond.methodLink "NotaryHall$Transaction" 123 ⟨"NotaryHall$StateList", "cashIssuedBy", "(I)I"⟩ ∈ z_ws := z_in (i := 423) (by decide +kernel) rfl
theorem wiL_cashIssuedBy : Cond.instanceMethod ⟨"NotaryHall$StateList", "cashIssuedBy", "(I)I"⟩ ∈ z_ws := z_in (i := 424) (by decide +kernel) rfl
theorem wvL_cashIssuedBy : Cond.selects "NotaryHall$StateList" ⟨"NotaryHall$StateList", "cashIssuedBy", "(I)I"⟩ ⟨"NotaryHall$StateList", "cashIssuedBy", "(I)I"⟩ ∈ z_ws := z_in (i := 425) (by decide +kernel) rfl
theorem wmL_28 : Cond.methodLink "NotaryHall$StateList" 28 ⟨"NotaryHall$State", "isCashIssuedBy", "(I)Z"⟩ ∈ z_ws := z_in (i := 427) (by decide +kernel) rfl
theorem wmT_126 : Cond.methodLink "NotaryHall$Transaction" 126 ⟨"NotaryHall$Transaction", "owesMore", "(I)Z"⟩ ∈ z_ws := z_in (i := 428) (by decide +kernel) rfl
theorem wiT_owesMore : Cond.instanceMethod ⟨"NotaryHall$Transaction", "owesMore", "(I)Z"⟩ ∈ z_ws := z_in (i := 430) (by decide +kernel) rfl
theorem wmT_132 : Cond.methodLink "NotaryHall$Transaction" 132 ⟨"NotaryHall$StateList", "debtOf", "(II)I"⟩ ∈ z_ws := z_in (i := 432) (by decide +kernel) rfl
theorem wiL_debtOf : Cond.instanceMethod ⟨"NotaryHall$StateList", "debtOf", "(II)I"⟩ ∈ z_ws := z_in (i := 433) (by decide +kernel) rfl
theorem wvL_debtOf : Cond.selects "NotaryHall$StateList" ⟨"NotaryHall$StateList", "debtOf", "(II)I"⟩ ⟨"NotaryHall$StateList", "debtOf", "(II)I"⟩ ∈ z_ws := z_in (i := 434) (by decide +kernel) rfl
theorem wmL_34 : Cond.methodLink "NotaryHall$StateList" 34 ⟨"NotaryHall$State", "isDebtOf", "(II)Z"⟩ ∈ z_ws := z_in (i := 436) (by decide +kernel) rfl
theorem wiS_isDebtOf : Cond.instanceMethod ⟨"NotaryHall$State", "isDebtOf", "(II)Z"⟩ ∈ z_ws := z_in (i := 437) (by decide +kernel) rfl
theorem wvS_isDebtOf : Cond.selects "NotaryHall$State" ⟨"NotaryHall$State", "isDebtOf", "(II)Z"⟩ ⟨"NotaryHall$State", "isDebtOf", "(II)Z"⟩ ∈ z_ws := z_in (i := 438) (by decide +kernel) rfl
theorem wmT_129 : Cond.methodLink "NotaryHall$Transaction" 129 ⟨"NotaryHall$Transaction", "isLetDown", "(I)Z"⟩ ∈ z_ws := z_in (i := 440) (by decide +kernel) rfl
theorem wiT_isLetDown : Cond.instanceMethod ⟨"NotaryHall$Transaction", "isLetDown", "(I)Z"⟩ ∈ z_ws := z_in (i := 442) (by decide +kernel) rfl
theorem wmT_136 : Cond.methodLink "NotaryHall$Transaction" 136 ⟨"java/lang/Math", "max", "(II)I"⟩ ∈ z_ws := z_in (i := 444) (by decide +kernel) rfl
theorem wtJM_max : Cond.static ⟨"java/lang/Math", "max", "(II)I"⟩ ∈ z_ws := z_in (i := 445) (by decide +kernel) rfl
theorem wmT_141 : Cond.methodLink "NotaryHall$Transaction" 141 ⟨"NotaryHall$StateList", "cashOwnedBy", "(I)I"⟩ ∈ z_ws := z_in (i := 447) (by decide +kernel) rfl
theorem wiL_cashOwnedBy : Cond.instanceMethod ⟨"NotaryHall$StateList", "cashOwnedBy", "(I)I"⟩ ∈ z_ws := z_in (i := 448) (by decide +kernel) rfl
theorem wvL_cashOwnedBy : Cond.selects "NotaryHall$StateList" ⟨"NotaryHall$StateList", "cashOwnedBy", "(I)I"⟩ ⟨"NotaryHall$StateList", "cashOwnedBy", "(I)I"⟩ ∈ z_ws := z_in (i := 449) (by decide +kernel) rfl
theorem wmT_82 : Cond.methodLink "NotaryHall$Transaction" 82 ⟨"NotaryHall$Transaction", "isValid", "()Z"⟩ ∈ z_ws := z_in (i := 451) (by decide +kernel) rfl
theorem wmT_86 : Cond.methodLink "NotaryHall$Transaction" 86 ⟨"NotaryHall$Transaction", "needsNobodyElse", "()Z"⟩ ∈ z_ws := z_in (i := 452) (by decide +kernel) rfl
theorem wiT_needsNobodyElse : Cond.instanceMethod ⟨"NotaryHall$Transaction", "needsNobodyElse", "()Z"⟩ ∈ z_ws := z_in (i := 453) (by decide +kernel) rfl
theorem wvT_needsNobodyElse : Cond.selects "NotaryHall$Transaction" ⟨"NotaryHall$Transaction", "needsNobodyElse", "()Z"⟩ ⟨"NotaryHall$Transaction", "needsNobodyElse", "()Z"⟩ ∈ z_ws := z_in (i := 454) (by decide +kernel) rfl
theorem wmH_149 : Cond.methodLink "NotaryHall" 149 ⟨"NotaryHall$Transaction", "needsNobodyElse", "()Z"⟩ ∈ z_ws := z_in (i := 456) (by decide +kernel) rfl
theorem wmH_152 : Cond.methodLink "NotaryHall" 152 ⟨"NotaryHall", "sendNotarise", "(LNotaryHall$Transaction;)I"⟩ ∈ z_ws := z_in (i := 457) (by decide +kernel) rfl
theorem wiH_sendNotarise : Cond.instanceMethod ⟨"NotaryHall", "sendNotarise", "(LNotaryHall$Transaction;)I"⟩ ∈ z_ws := z_in (i := 459) (by decide +kernel) rfl
theorem wmH_264 : Cond.methodLink "NotaryHall" 264 ⟨"NotaryHall", "send", "(ILNotaryHall$Transaction;III)I"⟩ ∈ z_ws := z_in (i := 461) (by decide +kernel) rfl
theorem wiH_send : Cond.instanceMethod ⟨"NotaryHall", "send", "(ILNotaryHall$Transaction;III)I"⟩ ∈ z_ws := z_in (i := 463) (by decide +kernel) rfl
theorem wmH_304 : Cond.methodLink "NotaryHall" 304 ⟨"NotaryHall$Mailbox", "code", "(IIIII)I"⟩ ∈ z_ws := z_in (i := 465) (by decide +kernel) rfl
theorem wtB_code : Cond.static ⟨"NotaryHall$Mailbox", "code", "(IIIII)I"⟩ ∈ z_ws := z_in (i := 466) (by decide +kernel) rfl
theorem wmH_308 : Cond.methodLink "NotaryHall" 308 ⟨"NotaryHall$Mailbox", "post", "(I)Z"⟩ ∈ z_ws := z_in (i := 468) (by decide +kernel) rfl
theorem wiB_post : Cond.instanceMethod ⟨"NotaryHall$Mailbox", "post", "(I)Z"⟩ ∈ z_ws := z_in (i := 469) (by decide +kernel) rfl
theorem wvB_post : Cond.selects "NotaryHall$Mailbox" ⟨"NotaryHall$Mailbox", "post", "(I)Z"⟩ ⟨"NotaryHall$Mailbox", "post", "(I)Z"⟩ ∈ z_ws := z_in (i := 470) (by decide +kernel) rfl
theorem wmB_19 : Cond.methodLink "NotaryHall$Mailbox" 19 ⟨"NotaryHall$Mailbox", "isWaiting", "(I)Z"⟩ ∈ z_ws := z_in (i := 472) (by decide +kernel) rfl
theorem wiB_isWaiting : Cond.instanceMethod ⟨"NotaryHall$Mailbox", "isWaiting", "(I)Z"⟩ ∈ z_ws := z_in (i := 474) (by decide +kernel) rfl
theorem wmH_159 : Cond.methodLink "NotaryHall" 159 ⟨"NotaryHall", "sendToOthers", "(ILNotaryHall$Transaction;I)I"⟩ ∈ z_ws := z_in (i := 476) (by decide +kernel) rfl
theorem wiH_sendToOthers : Cond.instanceMethod ⟨"NotaryHall", "sendToOthers", "(ILNotaryHall$Transaction;I)I"⟩ ∈ z_ws := z_in (i := 478) (by decide +kernel) rfl
theorem wmW_46 : Cond.methodLink "NotaryHallLaw" 46 ⟨"NotaryHall", "deliver", "(IZ)I"⟩ ∈ z_ws := z_in (i := 480) (by decide +kernel) rfl
theorem wiH_deliver : Cond.instanceMethod ⟨"NotaryHall", "deliver", "(IZ)I"⟩ ∈ z_ws := z_in (i := 481) (by decide +kernel) rfl
theorem wvH_deliver : Cond.selects "NotaryHall" ⟨"NotaryHall", "deliver", "(IZ)I"⟩ ⟨"NotaryHall", "deliver", "(IZ)I"⟩ ∈ z_ws := z_in (i := 482) (by decide +kernel) rfl
theorem wmH_163 : Cond.methodLink "NotaryHall" 163 ⟨"NotaryHall$Mailbox", "holdsPlace", "(I)Z"⟩ ∈ z_ws := z_in (i := 484) (by decide +kernel) rfl
theorem wiB_holdsPlace : Cond.instanceMethod ⟨"NotaryHall$Mailbox", "holdsPlace", "(I)Z"⟩ ∈ z_ws := z_in (i := 485) (by decide +kernel) rfl
theorem wvB_holdsPlace : Cond.selects "NotaryHall$Mailbox" ⟨"NotaryHall$Mailbox", "holdsPlace", "(I)Z"⟩ ⟨"NotaryHall$Mailbox", "holdsPlace", "(I)Z"⟩ ∈ z_ws := z_in (i := 486) (by decide +kernel) rfl
theorem wmH_169 : Cond.methodLink "NotaryHall" 169 ⟨"NotaryHall", "receive", "(IZ)I"⟩ ∈ z_ws := z_in (i := 488) (by decide +kernel) rfl
theorem wiH_receive : Cond.instanceMethod ⟨"NotaryHall", "receive", "(IZ)I"⟩ ∈ z_ws := z_in (i := 490) (by decide +kernel) rfl
theorem wmH_219 : Cond.methodLink "NotaryHall" 219 ⟨"NotaryHall$Mailbox", "transactionOf", "(I)I"⟩ ∈ z_ws := z_in (i := 492) (by decide +kernel) rfl
theorem wtB_transactionOf : Cond.static ⟨"NotaryHall$Mailbox", "transactionOf", "(I)I"⟩ ∈ z_ws := z_in (i := 493) (by decide +kernel) rfl
theorem wmH_222 : Cond.methodLink "NotaryHall" 222 ⟨"NotaryHall$Mailbox", "receiverOf", "(I)I"⟩ ∈ z_ws := z_in (i := 495) (by decide +kernel) rfl
theorem wtB_receiverOf : Cond.static ⟨"NotaryHall$Mailbox", "receiverOf", "(I)I"⟩ ∈ z_ws := z_in (i := 496) (by decide +kernel) rfl
theorem wmH_225 : Cond.methodLink "NotaryHall" 225 ⟨"NotaryHall$Mailbox", "contentOf", "(I)I"⟩ ∈ z_ws := z_in (i := 498) (by decide +kernel) rfl
theorem wtB_contentOf : Cond.static ⟨"NotaryHall$Mailbox", "contentOf", "(I)I"⟩ ∈ z_ws := z_in (i := 499) (by decide +kernel) rfl
theorem wmH_228 : Cond.methodLink "NotaryHall" 228 ⟨"NotaryHall$Mailbox", "kindOf", "(I)I"⟩ ∈ z_ws := z_in (i := 501) (by decide +kernel) rfl
theorem wtB_kindOf : Cond.static ⟨"NotaryHall$Mailbox", "kindOf", "(I)I"⟩ ∈ z_ws := z_in (i := 502) (by decide +kernel) rfl
theorem wmH_231 : Cond.methodLink "NotaryHall" 231 ⟨"NotaryHall", "receiveAsk", "(LNotaryHall$Transaction;IZ)I"⟩ ∈ z_ws := z_in (i := 504) (by decide +kernel) rfl
theorem wiH_receiveAsk : Cond.instanceMethod ⟨"NotaryHall", "receiveAsk", "(LNotaryHall$Transaction;IZ)I"⟩ ∈ z_ws := z_in (i := 506) (by decide +kernel) rfl
theorem wmH_251 : Cond.methodLink "NotaryHall" 251 ⟨"NotaryHall$Transaction", "decide", "(IZ)V"⟩ ∈ z_ws := z_in (i := 508) (by decide +kernel) rfl
theorem wiT_decide : Cond.instanceMethod ⟨"NotaryHall$Transaction", "decide", "(IZ)V"⟩ ∈ z_ws := z_in (i := 509) (by decide +kernel) rfl
theorem wvT_decide : Cond.selects "NotaryHall$Transaction" ⟨"NotaryHall$Transaction", "decide", "(IZ)V"⟩ ⟨"NotaryHall$Transaction", "decide", "(IZ)V"⟩ ∈ z_ws := z_in (i := 510) (by decide +kernel) rfl
theorem wmH_261 : Cond.methodLink "NotaryHall" 261 ⟨"NotaryHall$Node", "fetch", "(I)V"⟩ ∈ z_ws := z_in (i := 513) (by decide +kernel) rfl
theorem wiN_fetch : Cond.instanceMethod ⟨"NotaryHall$Node", "fetch", "(I)V"⟩ ∈ z_ws := z_in (i := 514) (by decide +kernel) rfl
theorem wvN_fetch : Cond.selects "NotaryHall$Node" ⟨"NotaryHall$Node", "fetch", "(I)V"⟩ ⟨"NotaryHall$Node", "fetch", "(I)V"⟩ ∈ z_ws := z_in (i := 515) (by decide +kernel) rfl
theorem wmN_25 : Cond.methodLink "NotaryHall$Node" 25 ⟨"java/lang/Integer", "bitCount", "(I)I"⟩ ∈ z_ws := z_in (i := 517) (by decide +kernel) rfl
theorem wtJI_bitCount : Cond.static ⟨"java/lang/Integer", "bitCount", "(I)I"⟩ ∈ z_ws := z_in (i := 518) (by decide +kernel) rfl
theorem wkJI_265 : Cond.constant "java/lang/Integer" 265 1431655765 ∈ z_ws := z_in (i := 520) (by decide +kernel) rfl
theorem wkJI_266 : Cond.constant "java/lang/Integer" 266 858993459 ∈ z_ws := z_in (i := 521) (by decide +kernel) rfl
theorem wkJI_267 : Cond.constant "java/lang/Integer" 267 252645135 ∈ z_ws := z_in (i := 522) (by decide +kernel) rfl
theorem wmH_235 : Cond.methodLink "NotaryHall" 235 ⟨"NotaryHall$Mailbox", "senderOf", "(I)I"⟩ ∈ z_ws := z_in (i := 523) (by decide +kernel) rfl
theorem wtB_senderOf : Cond.static ⟨"NotaryHall$Mailbox", "senderOf", "(I)I"⟩ ∈ z_ws := z_in (i := 524) (by decide +kernel) rfl
theorem wmH_238 : Cond.methodLink "NotaryHall" 238 ⟨"NotaryHall", "receiveReply", "(LNotaryHall$Transaction;IIZ)I"⟩ ∈ z_ws := z_in (i := 526) (by decide +kernel) rfl
theorem wiH_receiveReply : Cond.instanceMethod ⟨"NotaryHall", "receiveReply", "(LNotaryHall$Transaction;IIZ)I"⟩ ∈ z_ws := z_in (i := 528) (by decide +kernel) rfl
theorem wmH_242 : Cond.methodLink "NotaryHall" 242 ⟨"NotaryHall", "receiveNotarise", "(LNotaryHall$Transaction;)I"⟩ ∈ z_ws := z_in (i := 530) (by decide +kernel) rfl
theorem wiH_receiveNotarise : Cond.instanceMethod ⟨"NotaryHall", "receiveNotarise", "(LNotaryHall$Transaction;)I"⟩ ∈ z_ws := z_in (i := 532) (by decide +kernel) rfl
theorem wmH_268 : Cond.methodLink "NotaryHall" 268 ⟨"NotaryHall", "judge", "(LNotaryHall$Transaction;)I"⟩ ∈ z_ws := z_in (i := 534) (by decide +kernel) rfl
theorem wiH_judge : Cond.instanceMethod ⟨"NotaryHall", "judge", "(LNotaryHall$Transaction;)I"⟩ ∈ z_ws := z_in (i := 536) (by decide +kernel) rfl
theorem wmH_295 : Cond.methodLink "NotaryHall" 295 ⟨"NotaryHall", "isAnyInputUsedUp", "(LNotaryHall$Transaction;)Z"⟩ ∈ z_ws := z_in (i := 538) (by decide +kernel) rfl
theorem wiH_isAnyInputUsedUp : Cond.instanceMethod ⟨"NotaryHall", "isAnyInputUsedUp", "(LNotaryHall$Transaction;)Z"⟩ ∈ z_ws := z_in (i := 540) (by decide +kernel) rfl
theorem wmH_271 : Cond.methodLink "NotaryHall" 271 ⟨"NotaryHall", "useUpInputs", "(LNotaryHall$Transaction;)V"⟩ ∈ z_ws := z_in (i := 542) (by decide +kernel) rfl
theorem wiH_useUpInputs : Cond.instanceMethod ⟨"NotaryHall", "useUpInputs", "(LNotaryHall$Transaction;)V"⟩ ∈ z_ws := z_in (i := 544) (by decide +kernel) rfl
theorem wmH_245 : Cond.methodLink "NotaryHall" 245 ⟨"NotaryHall", "receiveVerdict", "(LNotaryHall$Transaction;IZ)I"⟩ ∈ z_ws := z_in (i := 546) (by decide +kernel) rfl
theorem wiH_receiveVerdict : Cond.instanceMethod ⟨"NotaryHall", "receiveVerdict", "(LNotaryHall$Transaction;IZ)I"⟩ ∈ z_ws := z_in (i := 548) (by decide +kernel) rfl
theorem wmH_275 : Cond.methodLink "NotaryHall" 275 ⟨"NotaryHall$Transaction", "concerned", "()I"⟩ ∈ z_ws := z_in (i := 550) (by decide +kernel) rfl
theorem wiT_concerned : Cond.instanceMethod ⟨"NotaryHall$Transaction", "concerned", "()I"⟩ ∈ z_ws := z_in (i := 551) (by decide +kernel) rfl
theorem wvT_concerned : Cond.selects "NotaryHall$Transaction" ⟨"NotaryHall$Transaction", "concerned", "()I"⟩ ⟨"NotaryHall$Transaction", "concerned", "()I"⟩ ∈ z_ws := z_in (i := 552) (by decide +kernel) rfl
theorem wmT_144 : Cond.methodLink "NotaryHall$Transaction" 144 ⟨"NotaryHall$State", "concerns", "(I)Z"⟩ ∈ z_ws := z_in (i := 554) (by decide +kernel) rfl
theorem wmH_278 : Cond.methodLink "NotaryHall" 278 ⟨"NotaryHall", "settle", "(LNotaryHall$Transaction;I)V"⟩ ∈ z_ws := z_in (i := 555) (by decide +kernel) rfl
theorem wiH_settle : Cond.instanceMethod ⟨"NotaryHall", "settle", "(LNotaryHall$Transaction;I)V"⟩ ∈ z_ws := z_in (i := 557) (by decide +kernel) rfl
theorem wmH_286 : Cond.methodLink "NotaryHall" 286 ⟨"NotaryHall$Node", "enter", "(I)V"⟩ ∈ z_ws := z_in (i := 559) (by decide +kernel) rfl
theorem wiN_enter : Cond.instanceMethod ⟨"NotaryHall$Node", "enter", "(I)V"⟩ ∈ z_ws := z_in (i := 560) (by decide +kernel) rfl
theorem wvN_enter : Cond.selects "NotaryHall$Node" ⟨"NotaryHall$Node", "enter", "(I)V"⟩ ⟨"NotaryHall$Node", "enter", "(I)V"⟩ ∈ z_ws := z_in (i := 561) (by decide +kernel) rfl
theorem wmH_248 : Cond.methodLink "NotaryHall" 248 ⟨"NotaryHall", "receiveFinality", "(LNotaryHall$Transaction;IZ)I"⟩ ∈ z_ws := z_in (i := 563) (by decide +kernel) rfl
theorem wiH_receiveFinality : Cond.instanceMethod ⟨"NotaryHall", "receiveFinality", "(LNotaryHall$Transaction;IZ)I"⟩ ∈ z_ws := z_in (i := 565) (by decide +kernel) rfl
theorem wmH_173 : Cond.methodLink "NotaryHall" 173 ⟨"NotaryHall$Mailbox", "removeAt", "(I)V"⟩ ∈ z_ws := z_in (i := 567) (by decide +kernel) rfl
theorem wiB_removeAt : Cond.instanceMethod ⟨"NotaryHall$Mailbox", "removeAt", "(I)V"⟩ ∈ z_ws := z_in (i := 568) (by decide +kernel) rfl
theorem wvB_removeAt : Cond.selects "NotaryHall$Mailbox" ⟨"NotaryHall$Mailbox", "removeAt", "(I)V"⟩ ⟨"NotaryHall$Mailbox", "removeAt", "(I)V"⟩ ∈ z_ws := z_in (i := 569) (by decide +kernel) rfl
theorem wmB_23 : Cond.methodLink "NotaryHall$Mailbox" 23 ⟨"NotaryHall$Mailbox", "holdsPlace", "(I)Z"⟩ ∈ z_ws := z_in (i := 571) (by decide +kernel) rfl
theorem wmW_50 : Cond.methodLink "NotaryHallLaw" 50 ⟨"NotaryHall", "message", "(I)I"⟩ ∈ z_ws := z_in (i := 572) (by decide +kernel) rfl
theorem wiH_message : Cond.instanceMethod ⟨"NotaryHall", "message", "(I)I"⟩ ∈ z_ws := z_in (i := 573) (by decide +kernel) rfl
theorem wvH_message : Cond.selects "NotaryHall" ⟨"NotaryHall", "message", "(I)I"⟩ ⟨"NotaryHall", "message", "(I)I"⟩ ∈ z_ws := z_in (i := 574) (by decide +kernel) rfl
theorem wmW_55 : Cond.methodLink "NotaryHallLaw" 55 ⟨"NotaryHall", "tick", "(I)I"⟩ ∈ z_ws := z_in (i := 576) (by decide +kernel) rfl
theorem wiH_tick : Cond.instanceMethod ⟨"NotaryHall", "tick", "(I)I"⟩ ∈ z_ws := z_in (i := 577) (by decide +kernel) rfl
theorem wvH_tick : Cond.selects "NotaryHall" ⟨"NotaryHall", "tick", "(I)I"⟩ ⟨"NotaryHall", "tick", "(I)I"⟩ ∈ z_ws := z_in (i := 578) (by decide +kernel) rfl
theorem wmW_59 : Cond.methodLink "NotaryHallLaw" 59 ⟨"NotaryHall", "consent", "(IIZ)Z"⟩ ∈ z_ws := z_in (i := 580) (by decide +kernel) rfl
theorem wiH_consent : Cond.instanceMethod ⟨"NotaryHall", "consent", "(IIZ)Z"⟩ ∈ z_ws := z_in (i := 581) (by decide +kernel) rfl
theorem wvH_consent : Cond.selects "NotaryHall" ⟨"NotaryHall", "consent", "(IIZ)Z"⟩ ⟨"NotaryHall", "consent", "(IIZ)Z"⟩ ∈ z_ws := z_in (i := 582) (by decide +kernel) rfl
theorem wmW_64 : Cond.methodLink "NotaryHallLaw" 64 ⟨"NotaryHall", "stage", "(I)I"⟩ ∈ z_ws := z_in (i := 584) (by decide +kernel) rfl
theorem wiH_stage : Cond.instanceMethod ⟨"NotaryHall", "stage", "(I)I"⟩ ∈ z_ws := z_in (i := 585) (by decide +kernel) rfl
theorem wvH_stage : Cond.selects "NotaryHall" ⟨"NotaryHall", "stage", "(I)I"⟩ ⟨"NotaryHall", "stage", "(I)I"⟩ ∈ z_ws := z_in (i := 586) (by decide +kernel) rfl
theorem wmW_68 : Cond.methodLink "NotaryHallLaw" 68 ⟨"NotaryHall", "signatures", "(IZ)I"⟩ ∈ z_ws := z_in (i := 588) (by decide +kernel) rfl
theorem wiH_signatures : Cond.instanceMethod ⟨"NotaryHall", "signatures", "(IZ)I"⟩ ∈ z_ws := z_in (i := 589) (by decide +kernel) rfl
theorem wvH_signatures : Cond.selects "NotaryHall" ⟨"NotaryHall", "signatures", "(IZ)I"⟩ ⟨"NotaryHall", "signatures", "(IZ)I"⟩ ∈ z_ws := z_in (i := 590) (by decide +kernel) rfl
theorem wmH_190 : Cond.methodLink "NotaryHall" 190 ⟨"NotaryHall$Transaction", "needs", "()I"⟩ ∈ z_ws := z_in (i := 592) (by decide +kernel) rfl
theorem wmW_72 : Cond.methodLink "NotaryHallLaw" 72 ⟨"NotaryHall", "verdict", "(I)I"⟩ ∈ z_ws := z_in (i := 593) (by decide +kernel) rfl
theorem wiH_verdict : Cond.instanceMethod ⟨"NotaryHall", "verdict", "(I)I"⟩ ∈ z_ws := z_in (i := 594) (by decide +kernel) rfl
theorem wvH_verdict : Cond.selects "NotaryHall" ⟨"NotaryHall", "verdict", "(I)I"⟩ ⟨"NotaryHall", "verdict", "(I)I"⟩ ∈ z_ws := z_in (i := 595) (by decide +kernel) rfl
theorem wmW_76 : Cond.methodLink "NotaryHallLaw" 76 ⟨"NotaryHall", "spender", "(II)I"⟩ ∈ z_ws := z_in (i := 597) (by decide +kernel) rfl
theorem wiH_spender : Cond.instanceMethod ⟨"NotaryHall", "spender", "(II)I"⟩ ∈ z_ws := z_in (i := 598) (by decide +kernel) rfl
theorem wvH_spender : Cond.selects "NotaryHall" ⟨"NotaryHall", "spender", "(II)I"⟩ ⟨"NotaryHall", "spender", "(II)I"⟩ ∈ z_ws := z_in (i := 599) (by decide +kernel) rfl
theorem wmW_81 : Cond.methodLink "NotaryHallLaw" 81 ⟨"NotaryHall", "standing", "(II)I"⟩ ∈ z_ws := z_in (i := 601) (by decide +kernel) rfl
theorem wiH_standing : Cond.instanceMethod ⟨"NotaryHall", "standing", "(II)I"⟩ ∈ z_ws := z_in (i := 602) (by decide +kernel) rfl
theorem wvH_standing : Cond.selects "NotaryHall" ⟨"NotaryHall", "standing", "(II)I"⟩ ⟨"NotaryHall", "standing", "(II)I"⟩ ∈ z_ws := z_in (i := 603) (by decide +kernel) rfl
theorem wmW_85 : Cond.methodLink "NotaryHallLaw" 85 ⟨"NotaryHall", "vault", "(II)I"⟩ ∈ z_ws := z_in (i := 605) (by decide +kernel) rfl
theorem wiH_vault : Cond.instanceMethod ⟨"NotaryHall", "vault", "(II)I"⟩ ∈ z_ws := z_in (i := 606) (by decide +kernel) rfl
theorem wvH_vault : Cond.selects "NotaryHall" ⟨"NotaryHall", "vault", "(II)I"⟩ ⟨"NotaryHall", "vault", "(II)I"⟩ ∈ z_ws := z_in (i := 607) (by decide +kernel) rfl
theorem wmW_89 : Cond.methodLink "NotaryHallLaw" 89 ⟨"NotaryHall", "balance", "(II)I"⟩ ∈ z_ws := z_in (i := 609) (by decide +kernel) rfl
theorem wiH_balance : Cond.instanceMethod ⟨"NotaryHall", "balance", "(II)I"⟩ ∈ z_ws := z_in (i := 610) (by decide +kernel) rfl
theorem wvH_balance : Cond.selects "NotaryHall" ⟨"NotaryHall", "balance", "(II)I"⟩ ⟨"NotaryHall", "balance", "(II)I"⟩ ∈ z_ws := z_in (i := 611) (by decide +kernel) rfl
theorem wmW_93 : Cond.methodLink "NotaryHallLaw" 93 ⟨"NotaryHall", "fetched", "(I)I"⟩ ∈ z_ws := z_in (i := 613) (by decide +kernel) rfl
theorem wiH_fetched : Cond.instanceMethod ⟨"NotaryHall", "fetched", "(I)I"⟩ ∈ z_ws := z_in (i := 614) (by decide +kernel) rfl
theorem wvH_fetched : Cond.selects "NotaryHall" ⟨"NotaryHall", "fetched", "(I)I"⟩ ⟨"NotaryHall", "fetched", "(I)I"⟩ ∈ z_ws := z_in (i := 615) (by decide +kernel) rfl
theorem wmW_97 : Cond.methodLink "NotaryHallLaw" 97 ⟨"NotaryHall", "tree", "(III)I"⟩ ∈ z_ws := z_in (i := 617) (by decide +kernel) rfl
theorem wiH_tree : Cond.instanceMethod ⟨"NotaryHall", "tree", "(III)I"⟩ ∈ z_ws := z_in (i := 618) (by decide +kernel) rfl
theorem wvH_tree : Cond.selects "NotaryHall" ⟨"NotaryHall", "tree", "(III)I"⟩ ⟨"NotaryHall", "tree", "(III)I"⟩ ∈ z_ws := z_in (i := 619) (by decide +kernel) rfl
theorem wmH_212 : Cond.methodLink "NotaryHall" 212 ⟨"NotaryHall$Transaction", "leaf", "(I)I"⟩ ∈ z_ws := z_in (i := 621) (by decide +kernel) rfl
theorem wiT_leaf : Cond.instanceMethod ⟨"NotaryHall$Transaction", "leaf", "(I)I"⟩ ∈ z_ws := z_in (i := 622) (by decide +kernel) rfl
theorem wvT_leaf : Cond.selects "NotaryHall$Transaction" ⟨"NotaryHall$Transaction", "leaf", "(I)I"⟩ ⟨"NotaryHall$Transaction", "leaf", "(I)I"⟩ ∈ z_ws := z_in (i := 623) (by decide +kernel) rfl
theorem wmT_147 : Cond.methodLink "NotaryHall$Transaction" 147 ⟨"NotaryHall$Transaction", "inputLeaf", "(I)I"⟩ ∈ z_ws := z_in (i := 625) (by decide +kernel) rfl
theorem wiT_inputLeaf : Cond.instanceMethod ⟨"NotaryHall$Transaction", "inputLeaf", "(I)I"⟩ ∈ z_ws := z_in (i := 627) (by decide +kernel) rfl
theorem wmT_150 : Cond.methodLink "NotaryHall$Transaction" 150 ⟨"NotaryHall$Transaction", "outputLeaf", "(I)I"⟩ ∈ z_ws := z_in (i := 629) (by decide +kernel) rfl
theorem wiT_outputLeaf : Cond.instanceMethod ⟨"NotaryHall$Transaction", "outputLeaf", "(I)I"⟩ ∈ z_ws := z_in (i := 631) (by decide +kernel) rfl
theorem wmT_154 : Cond.methodLink "NotaryHall$Transaction" 154 ⟨"NotaryHall$State", "leafValue", "()I"⟩ ∈ z_ws := z_in (i := 633) (by decide +kernel) rfl
theorem wiS_leafValue : Cond.instanceMethod ⟨"NotaryHall$State", "leafValue", "()I"⟩ ∈ z_ws := z_in (i := 634) (by decide +kernel) rfl
theorem wvS_leafValue : Cond.selects "NotaryHall$State" ⟨"NotaryHall$State", "leafValue", "()I"⟩ ⟨"NotaryHall$State", "leafValue", "()I"⟩ ∈ z_ws := z_in (i := 635) (by decide +kernel) rfl
theorem wmH_215 : Cond.methodLink "NotaryHall" 215 ⟨"NotaryHall", "mix", "(II)I"⟩ ∈ z_ws := z_in (i := 637) (by decide +kernel) rfl
theorem wtH_mix : Cond.static ⟨"NotaryHall", "mix", "(II)I"⟩ ∈ z_ws := z_in (i := 638) (by decide +kernel) rfl
theorem wcW_10 : Cond.classLink "NotaryHallLaw" 10 "NotaryHallModel" ∈ z_ws := z_in (i := 640) (by decide +kernel) rfl
theorem wqR : Cond.instantiable "NotaryHallModel" 27 ∈ z_ws := z_in (i := 641) (by decide +kernel) rfl
theorem wmW_12 : Cond.methodLink "NotaryHallLaw" 12 ⟨"NotaryHallModel", "<init>", "()V"⟩ ∈ z_ws := z_in (i := 642) (by decide +kernel) rfl
theorem wiR_init : Cond.instanceMethod ⟨"NotaryHallModel", "<init>", "()V"⟩ ∈ z_ws := z_in (i := 643) (by decide +kernel) rfl
theorem wmR_1 : Cond.methodLink "NotaryHallModel" 1 ⟨"java/lang/Object", "<init>", "()V"⟩ ∈ z_ws := z_in (i := 645) (by decide +kernel) rfl
theorem wfR_83 : Cond.fieldLink "NotaryHallModel" 83 "NotaryHallModel" "many" "I" ∈ z_ws := z_in (i := 646) (by decide +kernel) rfl
theorem wfR_7 : Cond.fieldLink "NotaryHallModel" 7 "NotaryHallModel" "begunBy" "[I" ∈ z_ws := z_in (i := 647) (by decide +kernel) rfl
theorem wfR_13 : Cond.fieldLink "NotaryHallModel" 13 "NotaryHallModel" "notaryOf" "[I" ∈ z_ws := z_in (i := 648) (by decide +kernel) rfl
theorem wfR_16 : Cond.fieldLink "NotaryHallModel" 16 "NotaryHallModel" "fromTime" "[I" ∈ z_ws := z_in (i := 649) (by decide +kernel) rfl
theorem wfR_19 : Cond.fieldLink "NotaryHallModel" 19 "NotaryHallModel" "untilTime" "[I" ∈ z_ws := z_in (i := 650) (by decide +kernel) rfl
theorem wfR_22 : Cond.fieldLink "NotaryHallModel" 22 "NotaryHallModel" "stageOf" "[I" ∈ z_ws := z_in (i := 651) (by decide +kernel) rfl
theorem wfR_25 : Cond.fieldLink "NotaryHallModel" 25 "NotaryHallModel" "hasty" "[Z" ∈ z_ws := z_in (i := 652) (by decide +kernel) rfl
theorem wfR_29 : Cond.fieldLink "NotaryHallModel" 29 "NotaryHallModel" "signed" "[I" ∈ z_ws := z_in (i := 653) (by decide +kernel) rfl
theorem wfR_32 : Cond.fieldLink "NotaryHallModel" 32 "NotaryHallModel" "verdictOf" "[I" ∈ z_ws := z_in (i := 654) (by decide +kernel) rfl
theorem wfR_35 : Cond.fieldLink "NotaryHallModel" 35 "NotaryHallModel" "inputs" "[I" ∈ z_ws := z_in (i := 655) (by decide +kernel) rfl
theorem wfR_38 : Cond.fieldLink "NotaryHallModel" 38 "NotaryHallModel" "outputs" "[I" ∈ z_ws := z_in (i := 656) (by decide +kernel) rfl
theorem wfR_41 : Cond.fieldLink "NotaryHallModel" 41 "NotaryHallModel" "input" "[I" ∈ z_ws := z_in (i := 657) (by decide +kernel) rfl
theorem wfR_44 : Cond.fieldLink "NotaryHallModel" 44 "NotaryHallModel" "kindOf" "[I" ∈ z_ws := z_in (i := 658) (by decide +kernel) rfl
theorem wfR_47 : Cond.fieldLink "NotaryHallModel" 47 "NotaryHallModel" "first" "[I" ∈ z_ws := z_in (i := 659) (by decide +kernel) rfl
theorem wfR_50 : Cond.fieldLink "NotaryHallModel" 50 "NotaryHallModel" "second" "[I" ∈ z_ws := z_in (i := 660) (by decide +kernel) rfl
theorem wfR_53 : Cond.fieldLink "NotaryHallModel" 53 "NotaryHallModel" "amountOf" "[I" ∈ z_ws := z_in (i := 661) (by decide +kernel) rfl
theorem wfR_56 : Cond.fieldLink "NotaryHallModel" 56 "NotaryHallModel" "boundTo" "[I" ∈ z_ws := z_in (i := 662) (by decide +kernel) rfl
theorem wfR_59 : Cond.fieldLink "NotaryHallModel" 59 "NotaryHallModel" "usedBy" "[I" ∈ z_ws := z_in (i := 663) (by decide +kernel) rfl
theorem wfR_62 : Cond.fieldLink "NotaryHallModel" 62 "NotaryHallModel" "knows" "[I" ∈ z_ws := z_in (i := 664) (by decide +kernel) rfl
theorem wfR_65 : Cond.fieldLink "NotaryHallModel" 65 "NotaryHallModel" "decided" "[I" ∈ z_ws := z_in (i := 665) (by decide +kernel) rfl
theorem wfR_68 : Cond.fieldLink "NotaryHallModel" 68 "NotaryHallModel" "fetches" "[I" ∈ z_ws := z_in (i := 666) (by decide +kernel) rfl
theorem wfR_71 : Cond.fieldLink "NotaryHallModel" 71 "NotaryHallModel" "declines" "[Z" ∈ z_ws := z_in (i := 667) (by decide +kernel) rfl
theorem wfR_74 : Cond.fieldLink "NotaryHallModel" 74 "NotaryHallModel" "waiting" "[I" ∈ z_ws := z_in (i := 668) (by decide +kernel) rfl
theorem wfR_143 : Cond.fieldLink "NotaryHallModel" 143 "NotaryHallModel" "waits" "I" ∈ z_ws := z_in (i := 669) (by decide +kernel) rfl
theorem wfR_172 : Cond.fieldLink "NotaryHallModel" 172 "NotaryHallModel" "clock" "I" ∈ z_ws := z_in (i := 670) (by decide +kernel) rfl
theorem wfR_77 : Cond.fieldLink "NotaryHallModel" 77 "NotaryHallModel" "before" "[Z" ∈ z_ws := z_in (i := 671) (by decide +kernel) rfl
theorem wfR_80 : Cond.fieldLink "NotaryHallModel" 80 "NotaryHallModel" "mix" "[I" ∈ z_ws := z_in (i := 672) (by decide +kernel) rfl
theorem wa_boolean : Cond.arrayClass .boolean ∈ z_ws := z_in (i := 728) (by decide +kernel) rfl
theorem wmW_17 : Cond.methodLink "NotaryHallLaw" 17 ⟨"NotaryHallModel", "begin", "(IIII)I"⟩ ∈ z_ws := z_in (i := 729) (by decide +kernel) rfl
theorem wiR_begin : Cond.instanceMethod ⟨"NotaryHallModel", "begin", "(IIII)I"⟩ ∈ z_ws := z_in (i := 730) (by decide +kernel) rfl
theorem wvR_begin : Cond.selects "NotaryHallModel" ⟨"NotaryHallModel", "begin", "(IIII)I"⟩ ⟨"NotaryHallModel", "begin", "(IIII)I"⟩ ∈ z_ws := z_in (i := 731) (by decide +kernel) rfl
theorem wmR_91 : Cond.methodLink "NotaryHallModel" 91 ⟨"NotaryHallModel", "isNode", "(I)Z"⟩ ∈ z_ws := z_in (i := 733) (by decide +kernel) rfl
theorem wiR_isNode : Cond.instanceMethod ⟨"NotaryHallModel", "isNode", "(I)Z"⟩ ∈ z_ws := z_in (i := 735) (by decide +kernel) rfl
theorem wkR_94 : Cond.constant "NotaryHallModel" 94 1000000 ∈ z_ws := z_in (i := 737) (by decide +kernel) rfl
theorem wmW_22 : Cond.methodLink "NotaryHallLaw" 22 ⟨"NotaryHallModel", "consume", "(III)I"⟩ ∈ z_ws := z_in (i := 738) (by decide +kernel) rfl
theorem wiR_consume : Cond.instanceMethod ⟨"NotaryHallModel", "consume", "(III)I"⟩ ∈ z_ws := z_in (i := 739) (by decide +kernel) rfl
theorem wvR_consume : Cond.selects "NotaryHallModel" ⟨"NotaryHallModel", "consume", "(III)I"⟩ ⟨"NotaryHallModel", "consume", "(III)I"⟩ ∈ z_ws := z_in (i := 740) (by decide +kernel) rfl
theorem wmR_87 : Cond.methodLink "NotaryHallModel" 87 ⟨"NotaryHallModel", "isTx", "(I)Z"⟩ ∈ z_ws := z_in (i := 742) (by decide +kernel) rfl
theorem wiR_isTx : Cond.instanceMethod ⟨"NotaryHallModel", "isTx", "(I)Z"⟩ ∈ z_ws := z_in (i := 744) (by decide +kernel) rfl
theorem wmR_95 : Cond.methodLink "NotaryHallModel" 95 ⟨"NotaryHallModel", "isState", "(II)Z"⟩ ∈ z_ws := z_in (i := 746) (by decide +kernel) rfl
theorem wiR_isState : Cond.instanceMethod ⟨"NotaryHallModel", "isState", "(II)Z"⟩ ∈ z_ws := z_in (i := 748) (by decide +kernel) rfl
theorem wmR_99 : Cond.methodLink "NotaryHallModel" 99 ⟨"NotaryHallModel", "isInput", "(II)Z"⟩ ∈ z_ws := z_in (i := 750) (by decide +kernel) rfl
theorem wiR_isInput : Cond.instanceMethod ⟨"NotaryHallModel", "isInput", "(II)Z"⟩ ∈ z_ws := z_in (i := 752) (by decide +kernel) rfl
theorem wmR_102 : Cond.methodLink "NotaryHallModel" 102 ⟨"NotaryHallModel", "addInput", "(II)V"⟩ ∈ z_ws := z_in (i := 754) (by decide +kernel) rfl
theorem wiR_addInput : Cond.instanceMethod ⟨"NotaryHallModel", "addInput", "(II)V"⟩ ∈ z_ws := z_in (i := 756) (by decide +kernel) rfl
theorem wmW_27 : Cond.methodLink "NotaryHallLaw" 27 ⟨"NotaryHallModel", "produce", "(IIIII)I"⟩ ∈ z_ws := z_in (i := 758) (by decide +kernel) rfl
theorem wiR_produce : Cond.instanceMethod ⟨"NotaryHallModel", "produce", "(IIIII)I"⟩ ∈ z_ws := z_in (i := 759) (by decide +kernel) rfl
theorem wvR_produce : Cond.selects "NotaryHallModel" ⟨"NotaryHallModel", "produce", "(IIIII)I"⟩ ⟨"NotaryHallModel", "produce", "(IIIII)I"⟩ ∈ z_ws := z_in (i := 760) (by decide +kernel) rfl
theorem wmR_106 : Cond.methodLink "NotaryHallModel" 106 ⟨"NotaryHallModel", "addOutput", "(IIIII)V"⟩ ∈ z_ws := z_in (i := 762) (by decide +kernel) rfl
theorem wiR_addOutput : Cond.instanceMethod ⟨"NotaryHallModel", "addOutput", "(IIIII)V"⟩ ∈ z_ws := z_in (i := 764) (by decide +kernel) rfl
theorem wmW_31 : Cond.methodLink "NotaryHallLaw" 31 ⟨"NotaryHallModel", "bind", "(III)I"⟩ ∈ z_ws := z_in (i := 766) (by decide +kernel) rfl
theorem wiR_bind : Cond.instanceMethod ⟨"NotaryHallModel", "bind", "(III)I"⟩ ∈ z_ws := z_in (i := 767) (by decide +kernel) rfl
theorem wvR_bind : Cond.selects "NotaryHallModel" ⟨"NotaryHallModel", "bind", "(III)I"⟩ ⟨"NotaryHallModel", "bind", "(III)I"⟩ ∈ z_ws := z_in (i := 768) (by decide +kernel) rfl
theorem wmW_35 : Cond.methodLink "NotaryHallLaw" 35 ⟨"NotaryHallModel", "pay", "(IIII)I"⟩ ∈ z_ws := z_in (i := 770) (by decide +kernel) rfl
theorem wiR_pay : Cond.instanceMethod ⟨"NotaryHallModel", "pay", "(IIII)I"⟩ ∈ z_ws := z_in (i := 771) (by decide +kernel) rfl
theorem wvR_pay : Cond.selects "NotaryHallModel" ⟨"NotaryHallModel", "pay", "(IIII)I"⟩ ⟨"NotaryHallModel", "pay", "(IIII)I"⟩ ∈ z_ws := z_in (i := 772) (by decide +kernel) rfl
theorem wmR_119 : Cond.methodLink "NotaryHallModel" 119 ⟨"NotaryHallModel", "coin", "(III)Z"⟩ ∈ z_ws := z_in (i := 774) (by decide +kernel) rfl
theorem wiR_coin : Cond.instanceMethod ⟨"NotaryHallModel", "coin", "(III)Z"⟩ ∈ z_ws := z_in (i := 776) (by decide +kernel) rfl
theorem wmR_113 : Cond.methodLink "NotaryHallModel" 113 ⟨"NotaryHallModel", "inVault", "(II)Z"⟩ ∈ z_ws := z_in (i := 778) (by decide +kernel) rfl
theorem wiR_inVault : Cond.instanceMethod ⟨"NotaryHallModel", "inVault", "(II)Z"⟩ ∈ z_ws := z_in (i := 780) (by decide +kernel) rfl
theorem wmR_110 : Cond.methodLink "NotaryHallModel" 110 ⟨"NotaryHallModel", "concerns", "(II)Z"⟩ ∈ z_ws := z_in (i := 782) (by decide +kernel) rfl
theorem wiR_concerns : Cond.instanceMethod ⟨"NotaryHallModel", "concerns", "(II)Z"⟩ ∈ z_ws := z_in (i := 784) (by decide +kernel) rfl
theorem wmR_116 : Cond.methodLink "NotaryHallModel" 116 ⟨"NotaryHallModel", "held", "(II)Z"⟩ ∈ z_ws := z_in (i := 786) (by decide +kernel) rfl
theorem wiR_held : Cond.instanceMethod ⟨"NotaryHallModel", "held", "(II)Z"⟩ ∈ z_ws := z_in (i := 788) (by decide +kernel) rfl
theorem wmW_40 : Cond.methodLink "NotaryHallLaw" 40 ⟨"NotaryHallModel", "drop", "(I)Z"⟩ ∈ z_ws := z_in (i := 790) (by decide +kernel) rfl
theorem wiR_drop : Cond.instanceMethod ⟨"NotaryHallModel", "drop", "(I)Z"⟩ ∈ z_ws := z_in (i := 791) (by decide +kernel) rfl
theorem wvR_drop : Cond.selects "NotaryHallModel" ⟨"NotaryHallModel", "drop", "(I)Z"⟩ ⟨"NotaryHallModel", "drop", "(I)Z"⟩ ∈ z_ws := z_in (i := 792) (by decide +kernel) rfl
theorem wmW_45 : Cond.methodLink "NotaryHallLaw" 45 ⟨"NotaryHallModel", "propose", "(IZ)I"⟩ ∈ z_ws := z_in (i := 794) (by decide +kernel) rfl
theorem wiR_propose : Cond.instanceMethod ⟨"NotaryHallModel", "propose", "(IZ)I"⟩ ∈ z_ws := z_in (i := 795) (by decide +kernel) rfl
theorem wvR_propose : Cond.selects "NotaryHallModel" ⟨"NotaryHallModel", "propose", "(IZ)I"⟩ ⟨"NotaryHallModel", "propose", "(IZ)I"⟩ ∈ z_ws := z_in (i := 796) (by decide +kernel) rfl
theorem wmR_137 : Cond.methodLink "NotaryHallModel" 137 ⟨"NotaryHallModel", "valid", "(I)Z"⟩ ∈ z_ws := z_in (i := 798) (by decide +kernel) rfl
theorem wiR_valid : Cond.instanceMethod ⟨"NotaryHallModel", "valid", "(I)Z"⟩ ∈ z_ws := z_in (i := 800) (by decide +kernel) rfl
theorem wmR_140 : Cond.methodLink "NotaryHallModel" 140 ⟨"NotaryHallModel", "alone", "(I)Z"⟩ ∈ z_ws := z_in (i := 802) (by decide +kernel) rfl
theorem wiR_alone : Cond.instanceMethod ⟨"NotaryHallModel", "alone", "(I)Z"⟩ ∈ z_ws := z_in (i := 804) (by decide +kernel) rfl
theorem wmR_133 : Cond.methodLink "NotaryHallModel" 133 ⟨"NotaryHallModel", "needs", "(I)I"⟩ ∈ z_ws := z_in (i := 806) (by decide +kernel) rfl
theorem wiR_needs : Cond.instanceMethod ⟨"NotaryHallModel", "needs", "(I)I"⟩ ∈ z_ws := z_in (i := 808) (by decide +kernel) rfl
theorem wmR_130 : Cond.methodLink "NotaryHallModel" 130 ⟨"NotaryHallModel", "mustSign", "(II)Z"⟩ ∈ z_ws := z_in (i := 810) (by decide +kernel) rfl
theorem wiR_mustSign : Cond.instanceMethod ⟨"NotaryHallModel", "mustSign", "(II)Z"⟩ ∈ z_ws := z_in (i := 812) (by decide +kernel) rfl
theorem wmR_123 : Cond.methodLink "NotaryHallModel" 123 ⟨"NotaryHallModel", "gain", "(IIII)I"⟩ ∈ z_ws := z_in (i := 814) (by decide +kernel) rfl
theorem wiR_gain : Cond.instanceMethod ⟨"NotaryHallModel", "gain", "(IIII)I"⟩ ∈ z_ws := z_in (i := 816) (by decide +kernel) rfl
theorem wmR_127 : Cond.methodLink "NotaryHallModel" 127 ⟨"NotaryHallModel", "letDown", "(II)Z"⟩ ∈ z_ws := z_in (i := 818) (by decide +kernel) rfl
theorem wiR_letDown : Cond.instanceMethod ⟨"NotaryHallModel", "letDown", "(II)Z"⟩ ∈ z_ws := z_in (i := 820) (by decide +kernel) rfl
theorem wmR_146 : Cond.methodLink "NotaryHallModel" 146 ⟨"NotaryHallModel", "send", "(IIIII)I"⟩ ∈ z_ws := z_in (i := 822) (by decide +kernel) rfl
theorem wiR_send : Cond.instanceMethod ⟨"NotaryHallModel", "send", "(IIIII)I"⟩ ∈ z_ws := z_in (i := 824) (by decide +kernel) rfl
theorem wmW_49 : Cond.methodLink "NotaryHallLaw" 49 ⟨"NotaryHallModel", "deliver", "(IZ)I"⟩ ∈ z_ws := z_in (i := 826) (by decide +kernel) rfl
theorem wiR_deliver : Cond.instanceMethod ⟨"NotaryHallModel", "deliver", "(IZ)I"⟩ ∈ z_ws := z_in (i := 827) (by decide +kernel) rfl
theorem wvR_deliver : Cond.selects "NotaryHallModel" ⟨"NotaryHallModel", "deliver", "(IZ)I"⟩ ⟨"NotaryHallModel", "deliver", "(IZ)I"⟩ ∈ z_ws := z_in (i := 828) (by decide +kernel) rfl
theorem wmR_150 : Cond.methodLink "NotaryHallModel" 150 ⟨"NotaryHallModel", "ask", "(IIZ)V"⟩ ∈ z_ws := z_in (i := 830) (by decide +kernel) rfl
theorem wiR_ask : Cond.instanceMethod ⟨"NotaryHallModel", "ask", "(IIZ)V"⟩ ∈ z_ws := z_in (i := 832) (by decide +kernel) rfl
theorem wmR_169 : Cond.methodLink "NotaryHallModel" 169 ⟨"NotaryHallModel", "fetch", "(II)V"⟩ ∈ z_ws := z_in (i := 834) (by decide +kernel) rfl
theorem wiR_fetch : Cond.instanceMethod ⟨"NotaryHallModel", "fetch", "(II)V"⟩ ∈ z_ws := z_in (i := 836) (by decide +kernel) rfl
theorem wmR_154 : Cond.methodLink "NotaryHallModel" 154 ⟨"NotaryHallModel", "reply", "(IIIZ)I"⟩ ∈ z_ws := z_in (i := 838) (by decide +kernel) rfl
theorem wiR_reply : Cond.instanceMethod ⟨"NotaryHallModel", "reply", "(IIIZ)I"⟩ ∈ z_ws := z_in (i := 840) (by decide +kernel) rfl
theorem wmR_158 : Cond.methodLink "NotaryHallModel" 158 ⟨"NotaryHallModel", "notarise", "(I)V"⟩ ∈ z_ws := z_in (i := 842) (by decide +kernel) rfl
theorem wiR_notarise : Cond.instanceMethod ⟨"NotaryHallModel", "notarise", "(I)V"⟩ ∈ z_ws := z_in (i := 844) (by decide +kernel) rfl
theorem wmR_178 : Cond.methodLink "NotaryHallModel" 178 ⟨"NotaryHallModel", "judge", "(I)I"⟩ ∈ z_ws := z_in (i := 846) (by decide +kernel) rfl
theorem wiR_judge : Cond.instanceMethod ⟨"NotaryHallModel", "judge", "(I)I"⟩ ∈ z_ws := z_in (i := 848) (by decide +kernel) rfl
theorem wmR_175 : Cond.methodLink "NotaryHallModel" 175 ⟨"NotaryHallModel", "sound", "(I)Z"⟩ ∈ z_ws := z_in (i := 850) (by decide +kernel) rfl
theorem wiR_sound : Cond.instanceMethod ⟨"NotaryHallModel", "sound", "(I)Z"⟩ ∈ z_ws := z_in (i := 852) (by decide +kernel) rfl
theorem wmR_162 : Cond.methodLink "NotaryHallModel" 162 ⟨"NotaryHallModel", "hear", "(IIZ)I"⟩ ∈ z_ws := z_in (i := 854) (by decide +kernel) rfl
theorem wiR_hear : Cond.instanceMethod ⟨"NotaryHallModel", "hear", "(IIZ)I"⟩ ∈ z_ws := z_in (i := 856) (by decide +kernel) rfl
theorem wmR_181 : Cond.methodLink "NotaryHallModel" 181 ⟨"NotaryHallModel", "told", "(II)Z"⟩ ∈ z_ws := z_in (i := 858) (by decide +kernel) rfl
theorem wiR_told : Cond.instanceMethod ⟨"NotaryHallModel", "told", "(II)Z"⟩ ∈ z_ws := z_in (i := 860) (by decide +kernel) rfl
theorem wmR_166 : Cond.methodLink "NotaryHallModel" 166 ⟨"NotaryHallModel", "close", "(IIZ)I"⟩ ∈ z_ws := z_in (i := 862) (by decide +kernel) rfl
theorem wiR_close : Cond.instanceMethod ⟨"NotaryHallModel", "close", "(IIZ)I"⟩ ∈ z_ws := z_in (i := 864) (by decide +kernel) rfl
theorem wmW_54 : Cond.methodLink "NotaryHallLaw" 54 ⟨"NotaryHallModel", "message", "(I)I"⟩ ∈ z_ws := z_in (i := 866) (by decide +kernel) rfl
theorem wiR_message : Cond.instanceMethod ⟨"NotaryHallModel", "message", "(I)I"⟩ ∈ z_ws := z_in (i := 867) (by decide +kernel) rfl
theorem wvR_message : Cond.selects "NotaryHallModel" ⟨"NotaryHallModel", "message", "(I)I"⟩ ⟨"NotaryHallModel", "message", "(I)I"⟩ ∈ z_ws := z_in (i := 868) (by decide +kernel) rfl
theorem wmW_58 : Cond.methodLink "NotaryHallLaw" 58 ⟨"NotaryHallModel", "tick", "(I)I"⟩ ∈ z_ws := z_in (i := 870) (by decide +kernel) rfl
theorem wiR_tick : Cond.instanceMethod ⟨"NotaryHallModel", "tick", "(I)I"⟩ ∈ z_ws := z_in (i := 871) (by decide +kernel) rfl
theorem wvR_tick : Cond.selects "NotaryHallModel" ⟨"NotaryHallModel", "tick", "(I)I"⟩ ⟨"NotaryHallModel", "tick", "(I)I"⟩ ∈ z_ws := z_in (i := 872) (by decide +kernel) rfl
theorem wmW_63 : Cond.methodLink "NotaryHallLaw" 63 ⟨"NotaryHallModel", "consent", "(IIZ)Z"⟩ ∈ z_ws := z_in (i := 874) (by decide +kernel) rfl
theorem wiR_consent : Cond.instanceMethod ⟨"NotaryHallModel", "consent", "(IIZ)Z"⟩ ∈ z_ws := z_in (i := 875) (by decide +kernel) rfl
theorem wvR_consent : Cond.selects "NotaryHallModel" ⟨"NotaryHallModel", "consent", "(IIZ)Z"⟩ ⟨"NotaryHallModel", "consent", "(IIZ)Z"⟩ ∈ z_ws := z_in (i := 876) (by decide +kernel) rfl
theorem wmW_67 : Cond.methodLink "NotaryHallLaw" 67 ⟨"NotaryHallModel", "stage", "(I)I"⟩ ∈ z_ws := z_in (i := 878) (by decide +kernel) rfl
theorem wiR_stage : Cond.instanceMethod ⟨"NotaryHallModel", "stage", "(I)I"⟩ ∈ z_ws := z_in (i := 879) (by decide +kernel) rfl
theorem wvR_stage : Cond.selects "NotaryHallModel" ⟨"NotaryHallModel", "stage", "(I)I"⟩ ⟨"NotaryHallModel", "stage", "(I)I"⟩ ∈ z_ws := z_in (i := 880) (by decide +kernel) rfl
theorem wmW_71 : Cond.methodLink "NotaryHallLaw" 71 ⟨"NotaryHallModel", "signatures", "(IZ)I"⟩ ∈ z_ws := z_in (i := 882) (by decide +kernel) rfl
theorem wiR_signatures : Cond.instanceMethod ⟨"NotaryHallModel", "signatures", "(IZ)I"⟩ ∈ z_ws := z_in (i := 883) (by decide +kernel) rfl
theorem wvR_signatures : Cond.selects "NotaryHallModel" ⟨"NotaryHallModel", "signatures", "(IZ)I"⟩ ⟨"NotaryHallModel", "signatures", "(IZ)I"⟩ ∈ z_ws := z_in (i := 884) (by decide +kernel) rfl
theorem wmW_75 : Cond.methodLink "NotaryHallLaw" 75 ⟨"NotaryHallModel", "verdict", "(I)I"⟩ ∈ z_ws := z_in (i := 886) (by decide +kernel) rfl
theorem wiR_verdict : Cond.instanceMethod ⟨"NotaryHallModel", "verdict", "(I)I"⟩ ∈ z_ws := z_in (i := 887) (by decide +kernel) rfl
theorem wvR_verdict : Cond.selects "NotaryHallModel" ⟨"NotaryHallModel", "verdict", "(I)I"⟩ ⟨"NotaryHallModel", "verdict", "(I)I"⟩ ∈ z_ws := z_in (i := 888) (by decide +kernel) rfl
theorem wmW_80 : Cond.methodLink "NotaryHallLaw" 80 ⟨"NotaryHallModel", "spender", "(II)I"⟩ ∈ z_ws := z_in (i := 890) (by decide +kernel) rfl
theorem wiR_spender : Cond.instanceMethod ⟨"NotaryHallModel", "spender", "(II)I"⟩ ∈ z_ws := z_in (i := 891) (by decide +kernel) rfl
theorem wvR_spender : Cond.selects "NotaryHallModel" ⟨"NotaryHallModel", "spender", "(II)I"⟩ ⟨"NotaryHallModel", "spender", "(II)I"⟩ ∈ z_ws := z_in (i := 892) (by decide +kernel) rfl
theorem wmW_84 : Cond.methodLink "NotaryHallLaw" 84 ⟨"NotaryHallModel", "standing", "(II)I"⟩ ∈ z_ws := z_in (i := 894) (by decide +kernel) rfl
theorem wiR_standing : Cond.instanceMethod ⟨"NotaryHallModel", "standing", "(II)I"⟩ ∈ z_ws := z_in (i := 895) (by decide +kernel) rfl
theorem wvR_standing : Cond.selects "NotaryHallModel" ⟨"NotaryHallModel", "standing", "(II)I"⟩ ⟨"NotaryHallModel", "standing", "(II)I"⟩ ∈ z_ws := z_in (i := 896) (by decide +kernel) rfl
theorem wmW_88 : Cond.methodLink "NotaryHallLaw" 88 ⟨"NotaryHallModel", "vault", "(II)I"⟩ ∈ z_ws := z_in (i := 898) (by decide +kernel) rfl
theorem wiR_vault : Cond.instanceMethod ⟨"NotaryHallModel", "vault", "(II)I"⟩ ∈ z_ws := z_in (i := 899) (by decide +kernel) rfl
theorem wvR_vault : Cond.selects "NotaryHallModel" ⟨"NotaryHallModel", "vault", "(II)I"⟩ ⟨"NotaryHallModel", "vault", "(II)I"⟩ ∈ z_ws := z_in (i := 900) (by decide +kernel) rfl
theorem wmW_92 : Cond.methodLink "NotaryHallLaw" 92 ⟨"NotaryHallModel", "balance", "(II)I"⟩ ∈ z_ws := z_in (i := 902) (by decide +kernel) rfl
theorem wiR_balance : Cond.instanceMethod ⟨"NotaryHallModel", "balance", "(II)I"⟩ ∈ z_ws := z_in (i := 903) (by decide +kernel) rfl
theorem wvR_balance : Cond.selects "NotaryHallModel" ⟨"NotaryHallModel", "balance", "(II)I"⟩ ⟨"NotaryHallModel", "balance", "(II)I"⟩ ∈ z_ws := z_in (i := 904) (by decide +kernel) rfl
theorem wmW_96 : Cond.methodLink "NotaryHallLaw" 96 ⟨"NotaryHallModel", "fetched", "(I)I"⟩ ∈ z_ws := z_in (i := 906) (by decide +kernel) rfl
theorem wiR_fetched : Cond.instanceMethod ⟨"NotaryHallModel", "fetched", "(I)I"⟩ ∈ z_ws := z_in (i := 907) (by decide +kernel) rfl
theorem wvR_fetched : Cond.selects "NotaryHallModel" ⟨"NotaryHallModel", "fetched", "(I)I"⟩ ⟨"NotaryHallModel", "fetched", "(I)I"⟩ ∈ z_ws := z_in (i := 908) (by decide +kernel) rfl
theorem wmW_100 : Cond.methodLink "NotaryHallLaw" 100 ⟨"NotaryHallModel", "tree", "(III)I"⟩ ∈ z_ws := z_in (i := 910) (by decide +kernel) rfl
theorem wiR_tree : Cond.instanceMethod ⟨"NotaryHallModel", "tree", "(III)I"⟩ ∈ z_ws := z_in (i := 911) (by decide +kernel) rfl
theorem wvR_tree : Cond.selects "NotaryHallModel" ⟨"NotaryHallModel", "tree", "(III)I"⟩ ⟨"NotaryHallModel", "tree", "(III)I"⟩ ∈ z_ws := z_in (i := 912) (by decide +kernel) rfl
theorem wmR_185 : Cond.methodLink "NotaryHallModel" 185 ⟨"NotaryHallModel", "leaf", "(II)I"⟩ ∈ z_ws := z_in (i := 914) (by decide +kernel) rfl
theorem wiR_leaf : Cond.instanceMethod ⟨"NotaryHallModel", "leaf", "(II)I"⟩ ∈ z_ws := z_in (i := 916) (by decide +kernel) rfl
theorem wkR_184 : Cond.constant "NotaryHallModel" 184 49152 ∈ z_ws := z_in (i := 918) (by decide +kernel) rfl
theorem wvH_find : Cond.selects "NotaryHall" ⟨"NotaryHall", "find", "(I)LNotaryHall$Transaction;"⟩ ⟨"NotaryHall", "find", "(I)LNotaryHall$Transaction;"⟩ ∈ z_ws := z_in (i := 0) (by decide +kernel) rfl
theorem wvH_findState : Cond.selects "NotaryHall" ⟨"NotaryHall", "findState", "(II)LNotaryHall$State;"⟩ ⟨"NotaryHall", "findState", "(II)LNotaryHall$State;"⟩ ∈ z_ws := z_in (i := 1) (by decide +kernel) rfl
theorem wvH_stateNumbersEnd : Cond.selects "NotaryHall" ⟨"NotaryHall", "stateNumbersEnd", "()I"⟩ ⟨"NotaryHall", "stateNumbersEnd", "()I"⟩ ∈ z_ws := z_in (i := 2) (by decide +kernel) rfl
theorem wvH_stateNumbered : Cond.selects "NotaryHall" ⟨"NotaryHall", "stateNumbered", "(I)LNotaryHall$State;"⟩ ⟨"NotaryHall", "stateNumbered", "(I)LNotaryHall$State;"⟩ ∈ z_ws := z_in (i := 3) (by decide +kernel) rfl
theorem wvH_isCoin : Cond.selects "NotaryHall" ⟨"NotaryHall", "isCoin", "(LNotaryHall$State;ILNotaryHall$Transaction;)Z"⟩ ⟨"NotaryHall", "isCoin", "(LNotaryHall$State;ILNotaryHall$Transaction;)Z"⟩ ∈ z_ws := z_in (i := 4) (by decide +kernel) rfl
theorem wvH_isInVault : Cond.selects "NotaryHall" ⟨"NotaryHall", "isInVault", "(LNotaryHall$State;I)Z"⟩ ⟨"NotaryHall", "isInVault", "(LNotaryHall$State;I)Z"⟩ ∈ z_ws := z_in (i := 5) (by decide +kernel) rfl
theorem wvH_isKnownInput : Cond.selects "NotaryHall" ⟨"NotaryHall", "isKnownInput", "(LNotaryHall$State;I)Z"⟩ ⟨"NotaryHall", "isKnownInput", "(LNotaryHall$State;I)Z"⟩ ∈ z_ws := z_in (i := 6) (by decide +kernel) rfl
theorem wvH_isHeld : Cond.selects "NotaryHall" ⟨"NotaryHall", "isHeld", "(LNotaryHall$State;I)Z"⟩ ⟨"NotaryHall", "isHeld", "(LNotaryHall$State;I)Z"⟩ ∈ z_ws := z_in (i := 7) (by decide +kernel) rfl
theorem wvH_takeCoins : Cond.selects "NotaryHall" ⟨"NotaryHall", "takeCoins", "(LNotaryHall$Transaction;I)V"⟩ ⟨"NotaryHall", "takeCoins", "(LNotaryHall$Transaction;I)V"⟩ ∈ z_ws := z_in (i := 8) (by decide +kernel) rfl
theorem wvT_allowsInput : Cond.selects "NotaryHall$Transaction" ⟨"NotaryHall$Transaction", "allowsInput", "(LNotaryHall$State;)Z"⟩ ⟨"NotaryHall$Transaction", "allowsInput", "(LNotaryHall$State;)Z"⟩ ∈ z_ws := z_in (i := 9) (by decide +kernel) rfl
theorem wvT_mustSign : Cond.selects "NotaryHall$Transaction" ⟨"NotaryHall$Transaction", "mustSign", "(I)Z"⟩ ⟨"NotaryHall$Transaction", "mustSign", "(I)Z"⟩ ∈ z_ws := z_in (i := 10) (by decide +kernel) rfl
theorem wvT_owesMore : Cond.selects "NotaryHall$Transaction" ⟨"NotaryHall$Transaction", "owesMore", "(I)Z"⟩ ⟨"NotaryHall$Transaction", "owesMore", "(I)Z"⟩ ∈ z_ws := z_in (i := 11) (by decide +kernel) rfl
theorem wvT_isLetDown : Cond.selects "NotaryHall$Transaction" ⟨"NotaryHall$Transaction", "isLetDown", "(I)Z"⟩ ⟨"NotaryHall$Transaction", "isLetDown", "(I)Z"⟩ ∈ z_ws := z_in (i := 12) (by decide +kernel) rfl
theorem wvH_sendNotarise : Cond.selects "NotaryHall" ⟨"NotaryHall", "sendNotarise", "(LNotaryHall$Transaction;)I"⟩ ⟨"NotaryHall", "sendNotarise", "(LNotaryHall$Transaction;)I"⟩ ∈ z_ws := z_in (i := 13) (by decide +kernel) rfl
theorem wvH_send : Cond.selects "NotaryHall" ⟨"NotaryHall", "send", "(ILNotaryHall$Transaction;III)I"⟩ ⟨"NotaryHall", "send", "(ILNotaryHall$Transaction;III)I"⟩ ∈ z_ws := z_in (i := 14) (by decide +kernel) rfl
theorem wvB_isWaiting : Cond.selects "NotaryHall$Mailbox" ⟨"NotaryHall$Mailbox", "isWaiting", "(I)Z"⟩ ⟨"NotaryHall$Mailbox", "isWaiting", "(I)Z"⟩ ∈ z_ws := z_in (i := 15) (by decide +kernel) rfl
theorem wvH_sendToOthers : Cond.selects "NotaryHall" ⟨"NotaryHall", "sendToOthers", "(ILNotaryHall$Transaction;I)I"⟩ ⟨"NotaryHall", "sendToOthers", "(ILNotaryHall$Transaction;I)I"⟩ ∈ z_ws := z_in (i := 16) (by decide +kernel) rfl
theorem wvH_receive : Cond.selects "NotaryHall" ⟨"NotaryHall", "receive", "(IZ)I"⟩ ⟨"NotaryHall", "receive", "(IZ)I"⟩ ∈ z_ws := z_in (i := 17) (by decide +kernel) rfl
theorem wvH_receiveAsk : Cond.selects "NotaryHall" ⟨"NotaryHall", "receiveAsk", "(LNotaryHall$Transaction;IZ)I"⟩ ⟨"NotaryHall", "receiveAsk", "(LNotaryHall$Transaction;IZ)I"⟩ ∈ z_ws := z_in (i := 18) (by decide +kernel) rfl
theorem wvH_receiveReply : Cond.selects "NotaryHall" ⟨"NotaryHall", "receiveReply", "(LNotaryHall$Transaction;IIZ)I"⟩ ⟨"NotaryHall", "receiveReply", "(LNotaryHall$Transaction;IIZ)I"⟩ ∈ z_ws := z_in (i := 19) (by decide +kernel) rfl
theorem wvH_receiveNotarise : Cond.selects "NotaryHall" ⟨"NotaryHall", "receiveNotarise", "(LNotaryHall$Transaction;)I"⟩ ⟨"NotaryHall", "receiveNotarise", "(LNotaryHall$Transaction;)I"⟩ ∈ z_ws := z_in (i := 20) (by decide +kernel) rfl
theorem wvH_judge : Cond.selects "NotaryHall" ⟨"NotaryHall", "judge", "(LNotaryHall$Transaction;)I"⟩ ⟨"NotaryHall", "judge", "(LNotaryHall$Transaction;)I"⟩ ∈ z_ws := z_in (i := 21) (by decide +kernel) rfl
theorem wvH_isAnyInputUsedUp : Cond.selects "NotaryHall" ⟨"NotaryHall", "isAnyInputUsedUp", "(LNotaryHall$Transaction;)Z"⟩ ⟨"NotaryHall", "isAnyInputUsedUp", "(LNotaryHall$Transaction;)Z"⟩ ∈ z_ws := z_in (i := 22) (by decide +kernel) rfl
theorem wvH_useUpInputs : Cond.selects "NotaryHall" ⟨"NotaryHall", "useUpInputs", "(LNotaryHall$Transaction;)V"⟩ ⟨"NotaryHall", "useUpInputs", "(LNotaryHall$Transaction;)V"⟩ ∈ z_ws := z_in (i := 23) (by decide +kernel) rfl
theorem wvH_receiveVerdict : Cond.selects "NotaryHall" ⟨"NotaryHall", "receiveVerdict", "(LNotaryHall$Transaction;IZ)I"⟩ ⟨"NotaryHall", "receiveVerdict", "(LNotaryHall$Transaction;IZ)I"⟩ ∈ z_ws := z_in (i := 24) (by decide +kernel) rfl
theorem wvH_settle : Cond.selects "NotaryHall" ⟨"NotaryHall", "settle", "(LNotaryHall$Transaction;I)V"⟩ ⟨"NotaryHall", "settle", "(LNotaryHall$Transaction;I)V"⟩ ∈ z_ws := z_in (i := 25) (by decide +kernel) rfl
theorem wvH_receiveFinality : Cond.selects "NotaryHall" ⟨"NotaryHall", "receiveFinality", "(LNotaryHall$Transaction;IZ)I"⟩ ⟨"NotaryHall", "receiveFinality", "(LNotaryHall$Transaction;IZ)I"⟩ ∈ z_ws := z_in (i := 26) (by decide +kernel) rfl
theorem wvT_inputLeaf : Cond.selects "NotaryHall$Transaction" ⟨"NotaryHall$Transaction", "inputLeaf", "(I)I"⟩ ⟨"NotaryHall$Transaction", "inputLeaf", "(I)I"⟩ ∈ z_ws := z_in (i := 27) (by decide +kernel) rfl
theorem wvT_outputLeaf : Cond.selects "NotaryHall$Transaction" ⟨"NotaryHall$Transaction", "outputLeaf", "(I)I"⟩ ⟨"NotaryHall$Transaction", "outputLeaf", "(I)I"⟩ ∈ z_ws := z_in (i := 28) (by decide +kernel) rfl
theorem wvR_isNode : Cond.selects "NotaryHallModel" ⟨"NotaryHallModel", "isNode", "(I)Z"⟩ ⟨"NotaryHallModel", "isNode", "(I)Z"⟩ ∈ z_ws := z_in (i := 29) (by decide +kernel) rfl
theorem wvR_isTx : Cond.selects "NotaryHallModel" ⟨"NotaryHallModel", "isTx", "(I)Z"⟩ ⟨"NotaryHallModel", "isTx", "(I)Z"⟩ ∈ z_ws := z_in (i := 30) (by decide +kernel) rfl
theorem wvR_isState : Cond.selects "NotaryHallModel" ⟨"NotaryHallModel", "isState", "(II)Z"⟩ ⟨"NotaryHallModel", "isState", "(II)Z"⟩ ∈ z_ws := z_in (i := 31) (by decide +kernel) rfl
theorem wvR_isInput : Cond.selects "NotaryHallModel" ⟨"NotaryHallModel", "isInput", "(II)Z"⟩ ⟨"NotaryHallModel", "isInput", "(II)Z"⟩ ∈ z_ws := z_in (i := 32) (by decide +kernel) rfl
theorem wvR_addInput : Cond.selects "NotaryHallModel" ⟨"NotaryHallModel", "addInput", "(II)V"⟩ ⟨"NotaryHallModel", "addInput", "(II)V"⟩ ∈ z_ws := z_in (i := 33) (by decide +kernel) rfl
theorem wvR_addOutput : Cond.selects "NotaryHallModel" ⟨"NotaryHallModel", "addOutput", "(IIIII)V"⟩ ⟨"NotaryHallModel", "addOutput", "(IIIII)V"⟩ ∈ z_ws := z_in (i := 34) (by decide +kernel) rfl
theorem wvR_coin : Cond.selects "NotaryHallModel" ⟨"NotaryHallModel", "coin", "(III)Z"⟩ ⟨"NotaryHallModel", "coin", "(III)Z"⟩ ∈ z_ws := z_in (i := 35) (by decide +kernel) rfl
theorem wvR_inVault : Cond.selects "NotaryHallModel" ⟨"NotaryHallModel", "inVault", "(II)Z"⟩ ⟨"NotaryHallModel", "inVault", "(II)Z"⟩ ∈ z_ws := z_in (i := 36) (by decide +kernel) rfl
theorem wvR_concerns : Cond.selects "NotaryHallModel" ⟨"NotaryHallModel", "concerns", "(II)Z"⟩ ⟨"NotaryHallModel", "concerns", "(II)Z"⟩ ∈ z_ws := z_in (i := 37) (by decide +kernel) rfl
theorem wvR_held : Cond.selects "NotaryHallModel" ⟨"NotaryHallModel", "held", "(II)Z"⟩ ⟨"NotaryHallModel", "held", "(II)Z"⟩ ∈ z_ws := z_in (i := 38) (by decide +kernel) rfl
theorem wvR_valid : Cond.selects "NotaryHallModel" ⟨"NotaryHallModel", "valid", "(I)Z"⟩ ⟨"NotaryHallModel", "valid", "(I)Z"⟩ ∈ z_ws := z_in (i := 39) (by decide +kernel) rfl
theorem wvR_alone : Cond.selects "NotaryHallModel" ⟨"NotaryHallModel", "alone", "(I)Z"⟩ ⟨"NotaryHallModel", "alone", "(I)Z"⟩ ∈ z_ws := z_in (i := 40) (by decide +kernel) rfl
theorem wvR_needs : Cond.selects "NotaryHallModel" ⟨"NotaryHallModel", "needs", "(I)I"⟩ ⟨"NotaryHallModel", "needs", "(I)I"⟩ ∈ z_ws := z_in (i := 41) (by decide +kernel) rfl
theorem wvR_mustSign : Cond.selects "NotaryHallModel" ⟨"NotaryHallModel", "mustSign", "(II)Z"⟩ ⟨"NotaryHallModel", "mustSign", "(II)Z"⟩ ∈ z_ws := z_in (i := 42) (by decide +kernel) rfl
theorem wvR_gain : Cond.selects "NotaryHallModel" ⟨"NotaryHallModel", "gain", "(IIII)I"⟩ ⟨"NotaryHallModel", "gain", "(IIII)I"⟩ ∈ z_ws := z_in (i := 43) (by decide +kernel) rfl
theorem wvR_letDown : Cond.selects "NotaryHallModel" ⟨"NotaryHallModel", "letDown", "(II)Z"⟩ ⟨"NotaryHallModel", "letDown", "(II)Z"⟩ ∈ z_ws := z_in (i := 44) (by decide +kernel) rfl
theorem wvR_send : Cond.selects "NotaryHallModel" ⟨"NotaryHallModel", "send", "(IIIII)I"⟩ ⟨"NotaryHallModel", "send", "(IIIII)I"⟩ ∈ z_ws := z_in (i := 45) (by decide +kernel) rfl
theorem wvR_ask : Cond.selects "NotaryHallModel" ⟨"NotaryHallModel", "ask", "(IIZ)V"⟩ ⟨"NotaryHallModel", "ask", "(IIZ)V"⟩ ∈ z_ws := z_in (i := 46) (by decide +kernel) rfl
theorem wvR_fetch : Cond.selects "NotaryHallModel" ⟨"NotaryHallModel", "fetch", "(II)V"⟩ ⟨"NotaryHallModel", "fetch", "(II)V"⟩ ∈ z_ws := z_in (i := 47) (by decide +kernel) rfl
theorem wvR_reply : Cond.selects "NotaryHallModel" ⟨"NotaryHallModel", "reply", "(IIIZ)I"⟩ ⟨"NotaryHallModel", "reply", "(IIIZ)I"⟩ ∈ z_ws := z_in (i := 48) (by decide +kernel) rfl
theorem wvR_notarise : Cond.selects "NotaryHallModel" ⟨"NotaryHallModel", "notarise", "(I)V"⟩ ⟨"NotaryHallModel", "notarise", "(I)V"⟩ ∈ z_ws := z_in (i := 49) (by decide +kernel) rfl
theorem wvR_judge : Cond.selects "NotaryHallModel" ⟨"NotaryHallModel", "judge", "(I)I"⟩ ⟨"NotaryHallModel", "judge", "(I)I"⟩ ∈ z_ws := z_in (i := 50) (by decide +kernel) rfl
theorem wvR_sound : Cond.selects "NotaryHallModel" ⟨"NotaryHallModel", "sound", "(I)Z"⟩ ⟨"NotaryHallModel", "sound", "(I)Z"⟩ ∈ z_ws := z_in (i := 51) (by decide +kernel) rfl
theorem wvR_hear : Cond.selects "NotaryHallModel" ⟨"NotaryHallModel", "hear", "(IIZ)I"⟩ ⟨"NotaryHallModel", "hear", "(IIZ)I"⟩ ∈ z_ws := z_in (i := 52) (by decide +kernel) rfl
theorem wvR_told : Cond.selects "NotaryHallModel" ⟨"NotaryHallModel", "told", "(II)Z"⟩ ⟨"NotaryHallModel", "told", "(II)Z"⟩ ∈ z_ws := z_in (i := 53) (by decide +kernel) rfl
theorem wvR_close : Cond.selects "NotaryHallModel" ⟨"NotaryHallModel", "close", "(IIZ)I"⟩ ⟨"NotaryHallModel", "close", "(IIZ)I"⟩ ∈ z_ws := z_in (i := 54) (by decide +kernel) rfl
theorem wvR_leaf : Cond.selects "NotaryHallModel" ⟨"NotaryHallModel", "leaf", "(II)I"⟩ ⟨"NotaryHallModel", "leaf", "(II)I"⟩ ∈ z_ws := z_in (i := 55) (by decide +kernel) rfl
abbrev mH_init : z_MD := (⟨"NotaryHall", "<init>", "()V"⟩, prog_1_method_1_code, 2, none, 0, fun _ => 0)
theorem woH_init : Cond.code mH_init.1 mH_init.2.1 mH_init.2.2.1 mH_init.2.2.2.1 ∈ z_ws := z_in (i := 71) (by decide +kernel) rfl
abbrev mJO_init : z_MD := (⟨"java/lang/Object", "<init>", "()V"⟩, object_method_1_code, 1, none, 0, fun _ => 0)
theorem woJO_init : Cond.code mJO_init.1 mJO_init.2.1 mJO_init.2.2.1 mJO_init.2.2.2.1 ∈ z_ws := z_in (i := 74) (by decide +kernel) rfl
abbrev mN_init : z_MD := (⟨"NotaryHall$Node", "<init>", "()V"⟩, prog_3_method_1_code, 1, none, 0, fun _ => 0)
theorem woN_init : Cond.code mN_init.1 mN_init.2.1 mN_init.2.2.1 mN_init.2.2.2.1 ∈ z_ws := z_in (i := 82) (by decide +kernel) rfl
abbrev mH_bit : z_MD := (⟨"NotaryHall", "bit", "(I)I"⟩, prog_1_method_48_code, 1, (some .int), 0, fun _ => 0)
theorem woH_bit : Cond.code mH_bit.1 mH_bit.2.1 mH_bit.2.2.1 mH_bit.2.2.2.1 ∈ z_ws := z_in (i := 86) (by decide +kernel) rfl
abbrev mB_init : z_MD := (⟨"NotaryHall$Mailbox", "<init>", "()V"⟩, prog_2_method_1_code, 1, none, 0, fun _ => 0)
theorem woB_init : Cond.code mB_init.1 mB_init.2.1 mB_init.2.2.1 mB_init.2.2.2.1 ∈ z_ws := z_in (i := 108) (by decide +kernel) rfl
abbrev mJA_fill : z_MD := (⟨"java/util/Arrays", "fill", "([II)V"⟩, prog_11_method_103_code, 4, none, 0, fun _ => 0)
theorem woJA_fill : Cond.code mJA_fill.1 mJA_fill.2.1 mJA_fill.2.2.1 mJA_fill.2.2.2.1 ∈ z_ws := z_in (i := 122) (by decide +kernel) rfl
abbrev mH_begin : z_MD := (⟨"NotaryHall", "begin", "(IIII)I"⟩, prog_1_method_2_code, 6, (some .int), 0, fun _ => 0)
theorem woH_begin : Cond.code mH_begin.1 mH_begin.2.1 mH_begin.2.2.1 mH_begin.2.2.2.1 ∈ z_ws := z_in (i := 151) (by decide +kernel) rfl
abbrev mH_isNode : z_MD := (⟨"NotaryHall", "isNode", "(I)Z"⟩, prog_1_method_44_code, 1, (some .boolean), 0, fun _ => 0)
theorem woH_isNode : Cond.code mH_isNode.1 mH_isNode.2.1 mH_isNode.2.2.1 mH_isNode.2.2.2.1 ∈ z_ws := z_in (i := 154) (by decide +kernel) rfl
abbrev mH_isNotary : z_MD := (⟨"NotaryHall", "isNotary", "(I)Z"⟩, prog_1_method_45_code, 1, (some .boolean), 0, fun _ => 0)
theorem woH_isNotary : Cond.code mH_isNotary.1 mH_isNotary.2.1 mH_isNotary.2.2.1 mH_isNotary.2.2.2.1 ∈ z_ws := z_in (i := 157) (by decide +kernel) rfl
abbrev mT_init : z_MD := (⟨"NotaryHall$Transaction", "<init>", "(IIIII)V"⟩, prog_6_method_1_code, 6, none, 0, fun _ => 0)
theorem woT_init : Cond.code mT_init.1 mT_init.2.1 mT_init.2.2.1 mT_init.2.2.2.1 ∈ z_ws := z_in (i := 162) (by decide +kernel) rfl
abbrev mL_init : z_MD := (⟨"NotaryHall$StateList", "<init>", "()V"⟩, prog_5_method_1_code, 1, none, 0, fun _ => 0)
theorem woL_init : Cond.code mL_init.1 mL_init.2.1 mL_init.2.2.1 mL_init.2.2.2.1 ∈ z_ws := z_in (i := 168) (by decide +kernel) rfl
abbrev mH_consume : z_MD := (⟨"NotaryHall", "consume", "(III)I"⟩, prog_1_method_3_code, 7, (some .int), 0, fun _ => 0)
theorem woH_consume : Cond.code mH_consume.1 mH_consume.2.1 mH_consume.2.2.1 mH_consume.2.2.2.1 ∈ z_ws := z_in (i := 246) (by decide +kernel) rfl
abbrev mH_find : z_MD := (⟨"NotaryHall", "find", "(I)LNotaryHall$Transaction;"⟩, prog_1_method_40_code, 2, (some (.object "NotaryHall$Transaction")), 0, fun _ => 0)
theorem woH_find : Cond.code mH_find.1 mH_find.2.1 mH_find.2.2.1 mH_find.2.2.2.1 ∈ z_ws := z_in (i := 250) (by decide +kernel) rfl
abbrev mH_findState : z_MD := (⟨"NotaryHall", "findState", "(II)LNotaryHall$State;"⟩, prog_1_method_41_code, 4, (some (.object "NotaryHall$State")), 0, fun _ => 0)
theorem woH_findState : Cond.code mH_findState.1 mH_findState.2.1 mH_findState.2.2.1 mH_findState.2.2.2.1 ∈ z_ws := z_in (i := 254) (by decide +kernel) rfl
abbrev mH_has : z_MD := (⟨"NotaryHall", "has", "(II)Z"⟩, prog_1_method_49_code, 2, (some .boolean), 0, fun _ => 0)
theorem woH_has : Cond.code mH_has.1 mH_has.2.1 mH_has.2.2.1 mH_has.2.2.2.1 ∈ z_ws := z_in (i := 257) (by decide +kernel) rfl
abbrev mL_holds : z_MD := (⟨"NotaryHall$StateList", "holds", "(I)Z"⟩, prog_5_method_4_code, 3, (some .boolean), 0, fun _ => 0)
theorem woL_holds : Cond.code mL_holds.1 mL_holds.2.1 mL_holds.2.2.1 mL_holds.2.2.2.1 ∈ z_ws := z_in (i := 262) (by decide +kernel) rfl
abbrev mL_hasRoomFor : z_MD := (⟨"NotaryHall$StateList", "hasRoomFor", "(I)Z"⟩, prog_5_method_2_code, 2, (some .boolean), 0, fun _ => 0)
theorem woL_hasRoomFor : Cond.code mL_hasRoomFor.1 mL_hasRoomFor.2.1 mL_hasRoomFor.2.2.1 mL_hasRoomFor.2.2.2.1 ∈ z_ws := z_in (i := 266) (by decide +kernel) rfl
abbrev mT_addInput : z_MD := (⟨"NotaryHall$Transaction", "addInput", "(LNotaryHall$State;LNotaryHall$Transaction;)I"⟩, prog_6_method_2_code, 3, (some .int), 0, fun _ => 0)
theorem woT_addInput : Cond.code mT_addInput.1 mT_addInput.2.1 mT_addInput.2.2.1 mT_addInput.2.2.2.1 ∈ z_ws := z_in (i := 270) (by decide +kernel) rfl
abbrev mL_add : z_MD := (⟨"NotaryHall$StateList", "add", "(LNotaryHall$State;)I"⟩, prog_5_method_3_code, 2, (some .int), 0, fun _ => 0)
theorem woL_add : Cond.code mL_add.1 mL_add.2.1 mL_add.2.2.1 mL_add.2.2.2.1 ∈ z_ws := z_in (i := 275) (by decide +kernel) rfl
abbrev mH_produce : z_MD := (⟨"NotaryHall", "produce", "(IIIII)I"⟩, prog_1_method_4_code, 7, (some .int), 0, fun _ => 0)
theorem woH_produce : Cond.code mH_produce.1 mH_produce.2.1 mH_produce.2.2.1 mH_produce.2.2.2.1 ∈ z_ws := z_in (i := 279) (by decide +kernel) rfl
abbrev mH_isContent : z_MD := (⟨"NotaryHall", "isContent", "(III)Z"⟩, prog_1_method_47_code, 3, (some .boolean), 0, fun _ => 0)
theorem woH_isContent : Cond.code mH_isContent.1 mH_isContent.2.1 mH_isContent.2.2.1 mH_isContent.2.2.2.1 ∈ z_ws := z_in (i := 282) (by decide +kernel) rfl
abbrev mH_isAmount : z_MD := (⟨"NotaryHall", "isAmount", "(I)Z"⟩, prog_1_method_46_code, 1, (some .boolean), 0, fun _ => 0)
theorem woH_isAmount : Cond.code mH_isAmount.1 mH_isAmount.2.1 mH_isAmount.2.2.1 mH_isAmount.2.2.2.1 ∈ z_ws := z_in (i := 285) (by decide +kernel) rfl
abbrev mT_addOutput : z_MD := (⟨"NotaryHall$Transaction", "addOutput", "(IIII)I"⟩, prog_6_method_3_code, 5, (some .int), 0, fun _ => 0)
theorem woT_addOutput : Cond.code mT_addOutput.1 mT_addOutput.2.1 mT_addOutput.2.2.1 mT_addOutput.2.2.2.1 ∈ z_ws := z_in (i := 289) (by decide +kernel) rfl
abbrev mS_init : z_MD := (⟨"NotaryHall$State", "<init>", "(IIIII)V"⟩, prog_4_method_1_code, 6, none, 0, fun _ => 0)
theorem woS_init : Cond.code mS_init.1 mS_init.2.1 mS_init.2.2.1 mS_init.2.2.2.1 ∈ z_ws := z_in (i := 294) (by decide +kernel) rfl
abbrev mH_bind : z_MD := (⟨"NotaryHall", "bind", "(III)I"⟩, prog_1_method_5_code, 6, (some .int), 0, fun _ => 0)
theorem woH_bind : Cond.code mH_bind.1 mH_bind.2.1 mH_bind.2.2.1 mH_bind.2.2.2.1 ∈ z_ws := z_in (i := 326) (by decide +kernel) rfl
abbrev mH_pay : z_MD := (⟨"NotaryHall", "pay", "(IIII)I"⟩, prog_1_method_6_code, 10, (some .int), 0, fun _ => 0)
theorem woH_pay : Cond.code mH_pay.1 mH_pay.2.1 mH_pay.2.2.1 mH_pay.2.2.2.1 ∈ z_ws := z_in (i := 330) (by decide +kernel) rfl
abbrev mH_stateNumbersEnd : z_MD := (⟨"NotaryHall", "stateNumbersEnd", "()I"⟩, prog_1_method_43_code, 1, (some .int), 0, fun _ => 0)
theorem woH_stateNumbersEnd : Cond.code mH_stateNumbersEnd.1 mH_stateNumbersEnd.2.1 mH_stateNumbersEnd.2.2.1 mH_stateNumbersEnd.2.2.2.1 ∈ z_ws := z_in (i := 334) (by decide +kernel) rfl
abbrev mH_stateNumbered : z_MD := (⟨"NotaryHall", "stateNumbered", "(I)LNotaryHall$State;"⟩, prog_1_method_42_code, 2, (some (.object "NotaryHall$State")), 0, fun _ => 0)
theorem woH_stateNumbered : Cond.code mH_stateNumbered.1 mH_stateNumbered.2.1 mH_stateNumbered.2.2.1 mH_stateNumbered.2.2.2.1 ∈ z_ws := z_in (i := 338) (by decide +kernel) rfl
abbrev mH_isCoin : z_MD := (⟨"NotaryHall", "isCoin", "(LNotaryHall$State;ILNotaryHall$Transaction;)Z"⟩, prog_1_method_38_code, 4, (some .boolean), 0, fun _ => 0)
theorem woH_isCoin : Cond.code mH_isCoin.1 mH_isCoin.2.1 mH_isCoin.2.2.1 mH_isCoin.2.2.2.1 ∈ z_ws := z_in (i := 342) (by decide +kernel) rfl
abbrev mS_isCashIssuedBy : z_MD := (⟨"NotaryHall$State", "isCashIssuedBy", "(I)Z"⟩, prog_4_method_5_code, 2, (some .boolean), 0, fun _ => 0)
theorem woS_isCashIssuedBy : Cond.code mS_isCashIssuedBy.1 mS_isCashIssuedBy.2.1 mS_isCashIssuedBy.2.2.1 mS_isCashIssuedBy.2.2.2.1 ∈ z_ws := z_in (i := 346) (by decide +kernel) rfl
abbrev mS_isBound : z_MD := (⟨"NotaryHall$State", "isBound", "()Z"⟩, prog_4_method_3_code, 1, (some .boolean), 0, fun _ => 0)
theorem woS_isBound : Cond.code mS_isBound.1 mS_isBound.2.1 mS_isBound.2.2.1 mS_isBound.2.2.2.1 ∈ z_ws := z_in (i := 350) (by decide +kernel) rfl
abbrev mS_source : z_MD := (⟨"NotaryHall$State", "source", "()I"⟩, prog_4_method_2_code, 1, (some .int), 0, fun _ => 0)
theorem woS_source : Cond.code mS_source.1 mS_source.2.1 mS_source.2.2.1 mS_source.2.2.2.1 ∈ z_ws := z_in (i := 354) (by decide +kernel) rfl
abbrev mH_isInVault : z_MD := (⟨"NotaryHall", "isInVault", "(LNotaryHall$State;I)Z"⟩, prog_1_method_35_code, 3, (some .boolean), 0, fun _ => 0)
theorem woH_isInVault : Cond.code mH_isInVault.1 mH_isInVault.2.1 mH_isInVault.2.2.1 mH_isInVault.2.2.2.1 ∈ z_ws := z_in (i := 358) (by decide +kernel) rfl
abbrev mS_concerns : z_MD := (⟨"NotaryHall$State", "concerns", "(I)Z"⟩, prog_4_method_8_code, 2, (some .boolean), 0, fun _ => 0)
theorem woS_concerns : Cond.code mS_concerns.1 mS_concerns.2.1 mS_concerns.2.2.1 mS_concerns.2.2.2.1 ∈ z_ws := z_in (i := 362) (by decide +kernel) rfl
abbrev mS_isCashOwnedBy : z_MD := (⟨"NotaryHall$State", "isCashOwnedBy", "(I)Z"⟩, prog_4_method_6_code, 2, (some .boolean), 0, fun _ => 0)
theorem woS_isCashOwnedBy : Cond.code mS_isCashOwnedBy.1 mS_isCashOwnedBy.2.1 mS_isCashOwnedBy.2.2.1 mS_isCashOwnedBy.2.2.2.1 ∈ z_ws := z_in (i := 366) (by decide +kernel) rfl
abbrev mH_isKnownInput : z_MD := (⟨"NotaryHall", "isKnownInput", "(LNotaryHall$State;I)Z"⟩, prog_1_method_36_code, 4, (some .boolean), 0, fun _ => 0)
theorem woH_isKnownInput : Cond.code mH_isKnownInput.1 mH_isKnownInput.2.1 mH_isKnownInput.2.2.1 mH_isKnownInput.2.2.2.1 ∈ z_ws := z_in (i := 370) (by decide +kernel) rfl
abbrev mH_isHeld : z_MD := (⟨"NotaryHall", "isHeld", "(LNotaryHall$State;I)Z"⟩, prog_1_method_37_code, 5, (some .boolean), 0, fun _ => 0)
theorem woH_isHeld : Cond.code mH_isHeld.1 mH_isHeld.2.1 mH_isHeld.2.2.1 mH_isHeld.2.2.2.1 ∈ z_ws := z_in (i := 374) (by decide +kernel) rfl
abbrev mT_isOpen : z_MD := (⟨"NotaryHall$Transaction", "isOpen", "()Z"⟩, prog_6_method_5_code, 1, (some .boolean), 0, fun _ => 0)
theorem woT_isOpen : Cond.code mT_isOpen.1 mT_isOpen.2.1 mT_isOpen.2.2.1 mT_isOpen.2.2.2.1 ∈ z_ws := z_in (i := 378) (by decide +kernel) rfl
abbrev mH_takeCoins : z_MD := (⟨"NotaryHall", "takeCoins", "(LNotaryHall$Transaction;I)V"⟩, prog_1_method_39_code, 5, none, 0, fun _ => 0)
theorem woH_takeCoins : Cond.code mH_takeCoins.1 mH_takeCoins.2.1 mH_takeCoins.2.2.1 mH_takeCoins.2.2.2.1 ∈ z_ws := z_in (i := 382) (by decide +kernel) rfl
abbrev mH_drop : z_MD := (⟨"NotaryHall", "drop", "(I)Z"⟩, prog_1_method_7_code, 3, (some .boolean), 0, fun _ => 0)
theorem woH_drop : Cond.code mH_drop.1 mH_drop.2.1 mH_drop.2.2.1 mH_drop.2.2.2.1 ∈ z_ws := z_in (i := 386) (by decide +kernel) rfl
abbrev mH_propose : z_MD := (⟨"NotaryHall", "propose", "(IZ)I"⟩, prog_1_method_8_code, 4, (some .int), 0, fun _ => 0)
theorem woH_propose : Cond.code mH_propose.1 mH_propose.2.1 mH_propose.2.2.1 mH_propose.2.2.2.1 ∈ z_ws := z_in (i := 390) (by decide +kernel) rfl
abbrev mT_isValid : z_MD := (⟨"NotaryHall$Transaction", "isValid", "()Z"⟩, prog_6_method_8_code, 2, (some .boolean), 0, fun _ => 0)
theorem woT_isValid : Cond.code mT_isValid.1 mT_isValid.2.1 mT_isValid.2.2.1 mT_isValid.2.2.2.1 ∈ z_ws := z_in (i := 394) (by decide +kernel) rfl
abbrev mT_allowsInput : z_MD := (⟨"NotaryHall$Transaction", "allowsInput", "(LNotaryHall$State;)Z"⟩, prog_6_method_9_code, 2, (some .boolean), 0, fun _ => 0)
theorem woT_allowsInput : Cond.code mT_allowsInput.1 mT_allowsInput.2.1 mT_allowsInput.2.2.1 mT_allowsInput.2.2.2.1 ∈ z_ws := z_in (i := 398) (by decide +kernel) rfl
abbrev mS_boundNumber : z_MD := (⟨"NotaryHall$State", "boundNumber", "()I"⟩, prog_4_method_4_code, 1, (some .int), 0, fun _ => 0)
theorem woS_boundNumber : Cond.code mS_boundNumber.1 mS_boundNumber.2.1 mS_boundNumber.2.2.1 mS_boundNumber.2.2.2.1 ∈ z_ws := z_in (i := 403) (by decide +kernel) rfl
abbrev mT_seal : z_MD := (⟨"NotaryHall$Transaction", "seal", "(Z)V"⟩, prog_6_method_6_code, 2, none, 0, fun _ => 0)
theorem woT_seal : Cond.code mT_seal.1 mT_seal.2.1 mT_seal.2.2.1 mT_seal.2.2.2.1 ∈ z_ws := z_in (i := 409) (by decide +kernel) rfl
abbrev mT_needs : z_MD := (⟨"NotaryHall$Transaction", "needs", "()I"⟩, prog_6_method_10_code, 3, (some .int), 0, fun _ => 0)
theorem woT_needs : Cond.code mT_needs.1 mT_needs.2.1 mT_needs.2.2.1 mT_needs.2.2.2.1 ∈ z_ws := z_in (i := 413) (by decide +kernel) rfl
abbrev mT_mustSign : z_MD := (⟨"NotaryHall$Transaction", "mustSign", "(I)Z"⟩, prog_6_method_11_code, 2, (some .boolean), 0, fun _ => 0)
theorem woT_mustSign : Cond.code mT_mustSign.1 mT_mustSign.2.1 mT_mustSign.2.2.1 mT_mustSign.2.2.2.1 ∈ z_ws := z_in (i := 417) (by decide +kernel) rfl
abbrev mL_holdsCashOwnedBy : z_MD := (⟨"NotaryHall$StateList", "holdsCashOwnedBy", "(I)Z"⟩, prog_5_method_5_code, 3, (some .boolean), 0, fun _ => 0)
theorem woL_holdsCashOwnedBy : Cond.code mL_holdsCashOwnedBy.1 mL_holdsCashOwnedBy.2.1 mL_holdsCashOwnedBy.2.2.1 mL_holdsCashOwnedBy.2.2.2.1 ∈ z_ws := z_in (i := 421) (by decide +kernel) rfl
abbrev mL_cashIssuedBy : z_MD := (⟨"NotaryHall$StateList", "cashIssuedBy", "(I)I"⟩, prog_5_method_6_code, 4, (some .int), 0, fun _ => 0)
theorem woL_cashIssuedBy : Cond.code mL_cashIssuedBy.1 mL_cashIssuedBy.2.1 mL_cashIssuedBy.2.2.1 mL_cashIssuedBy.2.2.2.1 ∈ z_ws := z_in (i := 426) (by decide +kernel) rfl
abbrev mT_owesMore : z_MD := (⟨"NotaryHall$Transaction", "owesMore", "(I)Z"⟩, prog_6_method_12_code, 3, (some .boolean), 0, fun _ => 0)
theorem woT_owesMore : Cond.code mT_owesMore.1 mT_owesMore.2.1 mT_owesMore.2.2.1 mT_owesMore.2.2.2.1 ∈ z_ws := z_in (i := 431) (by decide +kernel) rfl
abbrev mL_debtOf : z_MD := (⟨"NotaryHall$StateList", "debtOf", "(II)I"⟩, prog_5_method_8_code, 5, (some .int), 0, fun _ => 0)
theorem woL_debtOf : Cond.code mL_debtOf.1 mL_debtOf.2.1 mL_debtOf.2.2.1 mL_debtOf.2.2.2.1 ∈ z_ws := z_in (i := 435) (by decide +kernel) rfl
abbrev mS_isDebtOf : z_MD := (⟨"NotaryHall$State", "isDebtOf", "(II)Z"⟩, prog_4_method_7_code, 3, (some .boolean), 0, fun _ => 0)
theorem woS_isDebtOf : Cond.code mS_isDebtOf.1 mS_isDebtOf.2.1 mS_isDebtOf.2.2.1 mS_isDebtOf.2.2.2.1 ∈ z_ws := z_in (i := 439) (by decide +kernel) rfl
abbrev mT_isLetDown : z_MD := (⟨"NotaryHall$Transaction", "isLetDown", "(I)Z"⟩, prog_6_method_13_code, 5, (some .boolean), 0, fun _ => 0)
theorem woT_isLetDown : Cond.code mT_isLetDown.1 mT_isLetDown.2.1 mT_isLetDown.2.2.1 mT_isLetDown.2.2.2.1 ∈ z_ws := z_in (i := 443) (by decide +kernel) rfl
abbrev mJM_max : z_MD := (⟨"java/lang/Math", "max", "(II)I"⟩, prog_10_method_65_code, 2, (some .int), 0, fun _ => 0)
theorem woJM_max : Cond.code mJM_max.1 mJM_max.2.1 mJM_max.2.2.1 mJM_max.2.2.2.1 ∈ z_ws := z_in (i := 446) (by decide +kernel) rfl
abbrev mL_cashOwnedBy : z_MD := (⟨"NotaryHall$StateList", "cashOwnedBy", "(I)I"⟩, prog_5_method_7_code, 4, (some .int), 0, fun _ => 0)
theorem woL_cashOwnedBy : Cond.code mL_cashOwnedBy.1 mL_cashOwnedBy.2.1 mL_cashOwnedBy.2.2.1 mL_cashOwnedBy.2.2.2.1 ∈ z_ws := z_in (i := 450) (by decide +kernel) rfl
abbrev mT_needsNobodyElse : z_MD := (⟨"NotaryHall$Transaction", "needsNobodyElse", "()Z"⟩, prog_6_method_7_code, 1, (some .boolean), 0, fun _ => 0)
theorem woT_needsNobodyElse : Cond.code mT_needsNobodyElse.1 mT_needsNobodyElse.2.1 mT_needsNobodyElse.2.2.1 mT_needsNobodyElse.2.2.2.1 ∈ z_ws := z_in (i := 455) (by decide +kernel) rfl
abbrev mH_sendNotarise : z_MD := (⟨"NotaryHall", "sendNotarise", "(LNotaryHall$Transaction;)I"⟩, prog_1_method_33_code, 2, (some .int), 0, fun _ => 0)
theorem woH_sendNotarise : Cond.code mH_sendNotarise.1 mH_sendNotarise.2.1 mH_sendNotarise.2.2.1 mH_sendNotarise.2.2.2.1 ∈ z_ws := z_in (i := 460) (by decide +kernel) rfl
abbrev mH_send : z_MD := (⟨"NotaryHall", "send", "(ILNotaryHall$Transaction;III)I"⟩, prog_1_method_32_code, 6, (some .int), 0, fun _ => 0)
theorem woH_send : Cond.code mH_send.1 mH_send.2.1 mH_send.2.2.1 mH_send.2.2.2.1 ∈ z_ws := z_in (i := 464) (by decide +kernel) rfl
abbrev mB_code : z_MD := (⟨"NotaryHall$Mailbox", "code", "(IIIII)I"⟩, prog_2_method_2_code, 5, (some .int), 0, fun _ => 0)
theorem woB_code : Cond.code mB_code.1 mB_code.2.1 mB_code.2.2.1 mB_code.2.2.2.1 ∈ z_ws := z_in (i := 467) (by decide +kernel) rfl
abbrev mB_post : z_MD := (⟨"NotaryHall$Mailbox", "post", "(I)Z"⟩, prog_2_method_9_code, 2, (some .boolean), 0, fun _ => 0)
theorem woB_post : Cond.code mB_post.1 mB_post.2.1 mB_post.2.2.1 mB_post.2.2.2.1 ∈ z_ws := z_in (i := 471) (by decide +kernel) rfl
abbrev mB_isWaiting : z_MD := (⟨"NotaryHall$Mailbox", "isWaiting", "(I)Z"⟩, prog_2_method_10_code, 3, (some .boolean), 0, fun _ => 0)
theorem woB_isWaiting : Cond.code mB_isWaiting.1 mB_isWaiting.2.1 mB_isWaiting.2.2.1 mB_isWaiting.2.2.2.1 ∈ z_ws := z_in (i := 475) (by decide +kernel) rfl
abbrev mH_sendToOthers : z_MD := (⟨"NotaryHall", "sendToOthers", "(ILNotaryHall$Transaction;I)I"⟩, prog_1_method_34_code, 6, (some .int), 0, fun _ => 0)
theorem woH_sendToOthers : Cond.code mH_sendToOthers.1 mH_sendToOthers.2.1 mH_sendToOthers.2.2.1 mH_sendToOthers.2.2.2.1 ∈ z_ws := z_in (i := 479) (by decide +kernel) rfl
abbrev mH_deliver : z_MD := (⟨"NotaryHall", "deliver", "(IZ)I"⟩, prog_1_method_9_code, 4, (some .int), 0, fun _ => 0)
theorem woH_deliver : Cond.code mH_deliver.1 mH_deliver.2.1 mH_deliver.2.2.1 mH_deliver.2.2.2.1 ∈ z_ws := z_in (i := 483) (by decide +kernel) rfl
abbrev mB_holdsPlace : z_MD := (⟨"NotaryHall$Mailbox", "holdsPlace", "(I)Z"⟩, prog_2_method_8_code, 2, (some .boolean), 0, fun _ => 0)
theorem woB_holdsPlace : Cond.code mB_holdsPlace.1 mB_holdsPlace.2.1 mB_holdsPlace.2.2.1 mB_holdsPlace.2.2.2.1 ∈ z_ws := z_in (i := 487) (by decide +kernel) rfl
abbrev mH_receive : z_MD := (⟨"NotaryHall", "receive", "(IZ)I"⟩, prog_1_method_22_code, 6, (some .int), 0, fun _ => 0)
theorem woH_receive : Cond.code mH_receive.1 mH_receive.2.1 mH_receive.2.2.1 mH_receive.2.2.2.1 ∈ z_ws := z_in (i := 491) (by decide +kernel) rfl
abbrev mB_transactionOf : z_MD := (⟨"NotaryHall$Mailbox", "transactionOf", "(I)I"⟩, prog_2_method_6_code, 1, (some .int), 0, fun _ => 0)
theorem woB_transactionOf : Cond.code mB_transactionOf.1 mB_transactionOf.2.1 mB_transactionOf.2.2.1 mB_transactionOf.2.2.2.1 ∈ z_ws := z_in (i := 494) (by decide +kernel) rfl
abbrev mB_receiverOf : z_MD := (⟨"NotaryHall$Mailbox", "receiverOf", "(I)I"⟩, prog_2_method_5_code, 1, (some .int), 0, fun _ => 0)
theorem woB_receiverOf : Cond.code mB_receiverOf.1 mB_receiverOf.2.1 mB_receiverOf.2.2.1 mB_receiverOf.2.2.2.1 ∈ z_ws := z_in (i := 497) (by decide +kernel) rfl
abbrev mB_contentOf : z_MD := (⟨"NotaryHall$Mailbox", "contentOf", "(I)I"⟩, prog_2_method_7_code, 1, (some .int), 0, fun _ => 0)
theorem woB_contentOf : Cond.code mB_contentOf.1 mB_contentOf.2.1 mB_contentOf.2.2.1 mB_contentOf.2.2.2.1 ∈ z_ws := z_in (i := 500) (by decide +kernel) rfl
abbrev mB_kindOf : z_MD := (⟨"NotaryHall$Mailbox", "kindOf", "(I)I"⟩, prog_2_method_3_code, 1, (some .int), 0, fun _ => 0)
theorem woB_kindOf : Cond.code mB_kindOf.1 mB_kindOf.2.1 mB_kindOf.2.2.1 mB_kindOf.2.2.2.1 ∈ z_ws := z_in (i := 503) (by decide +kernel) rfl
abbrev mH_receiveAsk : z_MD := (⟨"NotaryHall", "receiveAsk", "(LNotaryHall$Transaction;IZ)I"⟩, prog_1_method_23_code, 6, (some .int), 0, fun _ => 0)
theorem woH_receiveAsk : Cond.code mH_receiveAsk.1 mH_receiveAsk.2.1 mH_receiveAsk.2.2.1 mH_receiveAsk.2.2.2.1 ∈ z_ws := z_in (i := 507) (by decide +kernel) rfl
abbrev mT_decide : z_MD := (⟨"NotaryHall$Transaction", "decide", "(IZ)V"⟩, prog_6_method_4_code, 3, none, 0, fun _ => 0)
theorem woT_decide : Cond.code mT_decide.1 mT_decide.2.1 mT_decide.2.2.1 mT_decide.2.2.2.1 ∈ z_ws := z_in (i := 511) (by decide +kernel) rfl
abbrev mN_fetch : z_MD := (⟨"NotaryHall$Node", "fetch", "(I)V"⟩, prog_3_method_2_code, 2, none, 0, fun _ => 0)
theorem woN_fetch : Cond.code mN_fetch.1 mN_fetch.2.1 mN_fetch.2.2.1 mN_fetch.2.2.2.1 ∈ z_ws := z_in (i := 516) (by decide +kernel) rfl
abbrev mJI_bitCount : z_MD := (⟨"java/lang/Integer", "bitCount", "(I)I"⟩, prog_9_method_49_code, 1, (some .int), 0, fun _ => 0)
theorem woJI_bitCount : Cond.code mJI_bitCount.1 mJI_bitCount.2.1 mJI_bitCount.2.2.1 mJI_bitCount.2.2.2.1 ∈ z_ws := z_in (i := 519) (by decide +kernel) rfl
abbrev mB_senderOf : z_MD := (⟨"NotaryHall$Mailbox", "senderOf", "(I)I"⟩, prog_2_method_4_code, 1, (some .int), 0, fun _ => 0)
theorem woB_senderOf : Cond.code mB_senderOf.1 mB_senderOf.2.1 mB_senderOf.2.2.1 mB_senderOf.2.2.2.1 ∈ z_ws := z_in (i := 525) (by decide +kernel) rfl
abbrev mH_receiveReply : z_MD := (⟨"NotaryHall", "receiveReply", "(LNotaryHall$Transaction;IIZ)I"⟩, prog_1_method_24_code, 7, (some .int), 0, fun _ => 0)
theorem woH_receiveReply : Cond.code mH_receiveReply.1 mH_receiveReply.2.1 mH_receiveReply.2.2.1 mH_receiveReply.2.2.2.1 ∈ z_ws := z_in (i := 529) (by decide +kernel) rfl
abbrev mH_receiveNotarise : z_MD := (⟨"NotaryHall", "receiveNotarise", "(LNotaryHall$Transaction;)I"⟩, prog_1_method_25_code, 2, (some .int), 0, fun _ => 0)
theorem woH_receiveNotarise : Cond.code mH_receiveNotarise.1 mH_receiveNotarise.2.1 mH_receiveNotarise.2.2.1 mH_receiveNotarise.2.2.2.1 ∈ z_ws := z_in (i := 533) (by decide +kernel) rfl
abbrev mH_judge : z_MD := (⟨"NotaryHall", "judge", "(LNotaryHall$Transaction;)I"⟩, prog_1_method_28_code, 2, (some .int), 0, fun _ => 0)
theorem woH_judge : Cond.code mH_judge.1 mH_judge.2.1 mH_judge.2.2.1 mH_judge.2.2.2.1 ∈ z_ws := z_in (i := 537) (by decide +kernel) rfl
abbrev mH_isAnyInputUsedUp : z_MD := (⟨"NotaryHall", "isAnyInputUsedUp", "(LNotaryHall$Transaction;)Z"⟩, prog_1_method_29_code, 4, (some .boolean), 0, fun _ => 0)
theorem woH_isAnyInputUsedUp : Cond.code mH_isAnyInputUsedUp.1 mH_isAnyInputUsedUp.2.1 mH_isAnyInputUsedUp.2.2.1 mH_isAnyInputUsedUp.2.2.2.1 ∈ z_ws := z_in (i := 541) (by decide +kernel) rfl
abbrev mH_useUpInputs : z_MD := (⟨"NotaryHall", "useUpInputs", "(LNotaryHall$Transaction;)V"⟩, prog_1_method_30_code, 4, none, 0, fun _ => 0)
theorem woH_useUpInputs : Cond.code mH_useUpInputs.1 mH_useUpInputs.2.1 mH_useUpInputs.2.2.1 mH_useUpInputs.2.2.2.1 ∈ z_ws := z_in (i := 545) (by decide +kernel) rfl
abbrev mH_receiveVerdict : z_MD := (⟨"NotaryHall", "receiveVerdict", "(LNotaryHall$Transaction;IZ)I"⟩, prog_1_method_26_code, 4, (some .int), 0, fun _ => 0)
theorem woH_receiveVerdict : Cond.code mH_receiveVerdict.1 mH_receiveVerdict.2.1 mH_receiveVerdict.2.2.1 mH_receiveVerdict.2.2.2.1 ∈ z_ws := z_in (i := 549) (by decide +kernel) rfl
abbrev mT_concerned : z_MD := (⟨"NotaryHall$Transaction", "concerned", "()I"⟩, prog_6_method_14_code, 4, (some .int), 0, fun _ => 0)
theorem woT_concerned : Cond.code mT_concerned.1 mT_concerned.2.1 mT_concerned.2.2.1 mT_concerned.2.2.2.1 ∈ z_ws := z_in (i := 553) (by decide +kernel) rfl
abbrev mH_settle : z_MD := (⟨"NotaryHall", "settle", "(LNotaryHall$Transaction;I)V"⟩, prog_1_method_31_code, 3, none, 0, fun _ => 0)
theorem woH_settle : Cond.code mH_settle.1 mH_settle.2.1 mH_settle.2.2.1 mH_settle.2.2.2.1 ∈ z_ws := z_in (i := 558) (by decide +kernel) rfl
abbrev mN_enter : z_MD := (⟨"NotaryHall$Node", "enter", "(I)V"⟩, prog_3_method_3_code, 2, none, 0, fun _ => 0)
theorem woN_enter : Cond.code mN_enter.1 mN_enter.2.1 mN_enter.2.2.1 mN_enter.2.2.2.1 ∈ z_ws := z_in (i := 562) (by decide +kernel) rfl
abbrev mH_receiveFinality : z_MD := (⟨"NotaryHall", "receiveFinality", "(LNotaryHall$Transaction;IZ)I"⟩, prog_1_method_27_code, 5, (some .int), 0, fun _ => 0)
theorem woH_receiveFinality : Cond.code mH_receiveFinality.1 mH_receiveFinality.2.1 mH_receiveFinality.2.2.1 mH_receiveFinality.2.2.2.1 ∈ z_ws := z_in (i := 566) (by decide +kernel) rfl
abbrev mB_removeAt : z_MD := (⟨"NotaryHall$Mailbox", "removeAt", "(I)V"⟩, prog_2_method_11_code, 3, none, 0, fun _ => 0)
theorem woB_removeAt : Cond.code mB_removeAt.1 mB_removeAt.2.1 mB_removeAt.2.2.1 mB_removeAt.2.2.2.1 ∈ z_ws := z_in (i := 570) (by decide +kernel) rfl
abbrev mH_message : z_MD := (⟨"NotaryHall", "message", "(I)I"⟩, prog_1_method_10_code, 2, (some .int), 0, fun _ => 0)
theorem woH_message : Cond.code mH_message.1 mH_message.2.1 mH_message.2.2.1 mH_message.2.2.2.1 ∈ z_ws := z_in (i := 575) (by decide +kernel) rfl
abbrev mH_tick : z_MD := (⟨"NotaryHall", "tick", "(I)I"⟩, prog_1_method_11_code, 2, (some .int), 0, fun _ => 0)
theorem woH_tick : Cond.code mH_tick.1 mH_tick.2.1 mH_tick.2.2.1 mH_tick.2.2.2.1 ∈ z_ws := z_in (i := 579) (by decide +kernel) rfl
abbrev mH_consent : z_MD := (⟨"NotaryHall", "consent", "(IIZ)Z"⟩, prog_1_method_12_code, 4, (some .boolean), 0, fun _ => 0)
theorem woH_consent : Cond.code mH_consent.1 mH_consent.2.1 mH_consent.2.2.1 mH_consent.2.2.2.1 ∈ z_ws := z_in (i := 583) (by decide +kernel) rfl
abbrev mH_stage : z_MD := (⟨"NotaryHall", "stage", "(I)I"⟩, prog_1_method_13_code, 3, (some .int), 0, fun _ => 0)
theorem woH_stage : Cond.code mH_stage.1 mH_stage.2.1 mH_stage.2.2.1 mH_stage.2.2.2.1 ∈ z_ws := z_in (i := 587) (by decide +kernel) rfl
abbrev mH_signatures : z_MD := (⟨"NotaryHall", "signatures", "(IZ)I"⟩, prog_1_method_14_code, 4, (some .int), 0, fun _ => 0)
theorem woH_signatures : Cond.code mH_signatures.1 mH_signatures.2.1 mH_signatures.2.2.1 mH_signatures.2.2.2.1 ∈ z_ws := z_in (i := 591) (by decide +kernel) rfl
abbrev mH_verdict : z_MD := (⟨"NotaryHall", "verdict", "(I)I"⟩, prog_1_method_15_code, 3, (some .int), 0, fun _ => 0)
theorem woH_verdict : Cond.code mH_verdict.1 mH_verdict.2.1 mH_verdict.2.2.1 mH_verdict.2.2.2.1 ∈ z_ws := z_in (i := 596) (by decide +kernel) rfl
abbrev mH_spender : z_MD := (⟨"NotaryHall", "spender", "(II)I"⟩, prog_1_method_16_code, 4, (some .int), 0, fun _ => 0)
theorem woH_spender : Cond.code mH_spender.1 mH_spender.2.1 mH_spender.2.2.1 mH_spender.2.2.2.1 ∈ z_ws := z_in (i := 600) (by decide +kernel) rfl
abbrev mH_standing : z_MD := (⟨"NotaryHall", "standing", "(II)I"⟩, prog_1_method_17_code, 3, (some .int), 0, fun _ => 0)
theorem woH_standing : Cond.code mH_standing.1 mH_standing.2.1 mH_standing.2.2.1 mH_standing.2.2.2.1 ∈ z_ws := z_in (i := 604) (by decide +kernel) rfl
abbrev mH_vault : z_MD := (⟨"NotaryHall", "vault", "(II)I"⟩, prog_1_method_18_code, 6, (some .int), 0, fun _ => 0)
theorem woH_vault : Cond.code mH_vault.1 mH_vault.2.1 mH_vault.2.2.1 mH_vault.2.2.2.1 ∈ z_ws := z_in (i := 608) (by decide +kernel) rfl
abbrev mH_balance : z_MD := (⟨"NotaryHall", "balance", "(II)I"⟩, prog_1_method_19_code, 6, (some .int), 0, fun _ => 0)
theorem woH_balance : Cond.code mH_balance.1 mH_balance.2.1 mH_balance.2.2.1 mH_balance.2.2.2.1 ∈ z_ws := z_in (i := 612) (by decide +kernel) rfl
abbrev mH_fetched : z_MD := (⟨"NotaryHall", "fetched", "(I)I"⟩, prog_1_method_20_code, 2, (some .int), 0, fun _ => 0)
theorem woH_fetched : Cond.code mH_fetched.1 mH_fetched.2.1 mH_fetched.2.2.1 mH_fetched.2.2.2.1 ∈ z_ws := z_in (i := 616) (by decide +kernel) rfl
abbrev mH_tree : z_MD := (⟨"NotaryHall", "tree", "(III)I"⟩, prog_1_method_21_code, 7, (some .int), 0, fun _ => 0)
theorem woH_tree : Cond.code mH_tree.1 mH_tree.2.1 mH_tree.2.2.1 mH_tree.2.2.2.1 ∈ z_ws := z_in (i := 620) (by decide +kernel) rfl
abbrev mT_leaf : z_MD := (⟨"NotaryHall$Transaction", "leaf", "(I)I"⟩, prog_6_method_15_code, 2, (some .int), 0, fun _ => 0)
theorem woT_leaf : Cond.code mT_leaf.1 mT_leaf.2.1 mT_leaf.2.2.1 mT_leaf.2.2.2.1 ∈ z_ws := z_in (i := 624) (by decide +kernel) rfl
abbrev mT_inputLeaf : z_MD := (⟨"NotaryHall$Transaction", "inputLeaf", "(I)I"⟩, prog_6_method_16_code, 2, (some .int), 0, fun _ => 0)
theorem woT_inputLeaf : Cond.code mT_inputLeaf.1 mT_inputLeaf.2.1 mT_inputLeaf.2.2.1 mT_inputLeaf.2.2.2.1 ∈ z_ws := z_in (i := 628) (by decide +kernel) rfl
abbrev mT_outputLeaf : z_MD := (⟨"NotaryHall$Transaction", "outputLeaf", "(I)I"⟩, prog_6_method_17_code, 2, (some .int), 0, fun _ => 0)
theorem woT_outputLeaf : Cond.code mT_outputLeaf.1 mT_outputLeaf.2.1 mT_outputLeaf.2.2.1 mT_outputLeaf.2.2.2.1 ∈ z_ws := z_in (i := 632) (by decide +kernel) rfl
abbrev mS_leafValue : z_MD := (⟨"NotaryHall$State", "leafValue", "()I"⟩, prog_4_method_9_code, 1, (some .int), 0, fun _ => 0)
theorem woS_leafValue : Cond.code mS_leafValue.1 mS_leafValue.2.1 mS_leafValue.2.2.1 mS_leafValue.2.2.2.1 ∈ z_ws := z_in (i := 636) (by decide +kernel) rfl
abbrev mH_mix : z_MD := (⟨"NotaryHall", "mix", "(II)I"⟩, prog_1_method_50_code, 3, (some .int), 0, fun _ => 0)
theorem woH_mix : Cond.code mH_mix.1 mH_mix.2.1 mH_mix.2.2.1 mH_mix.2.2.2.1 ∈ z_ws := z_in (i := 639) (by decide +kernel) rfl
abbrev mR_init : z_MD := (⟨"NotaryHallModel", "<init>", "()V"⟩, prog_8_method_1_code, 1, none, 0, fun _ => 0)
theorem woR_init : Cond.code mR_init.1 mR_init.2.1 mR_init.2.2.1 mR_init.2.2.2.1 ∈ z_ws := z_in (i := 644) (by decide +kernel) rfl
abbrev mR_begin : z_MD := (⟨"NotaryHallModel", "begin", "(IIII)I"⟩, prog_8_method_5_code, 5, (some .int), 0, fun _ => 0)
theorem woR_begin : Cond.code mR_begin.1 mR_begin.2.1 mR_begin.2.2.1 mR_begin.2.2.2.1 ∈ z_ws := z_in (i := 732) (by decide +kernel) rfl
abbrev mR_isNode : z_MD := (⟨"NotaryHallModel", "isNode", "(I)Z"⟩, prog_8_method_3_code, 2, (some .boolean), 0, fun _ => 0)
theorem woR_isNode : Cond.code mR_isNode.1 mR_isNode.2.1 mR_isNode.2.2.1 mR_isNode.2.2.2.1 ∈ z_ws := z_in (i := 736) (by decide +kernel) rfl
abbrev mR_consume : z_MD := (⟨"NotaryHallModel", "consume", "(III)I"⟩, prog_8_method_9_code, 4, (some .int), 0, fun _ => 0)
theorem woR_consume : Cond.code mR_consume.1 mR_consume.2.1 mR_consume.2.2.1 mR_consume.2.2.2.1 ∈ z_ws := z_in (i := 741) (by decide +kernel) rfl
abbrev mR_isTx : z_MD := (⟨"NotaryHallModel", "isTx", "(I)Z"⟩, prog_8_method_2_code, 2, (some .boolean), 0, fun _ => 0)
theorem woR_isTx : Cond.code mR_isTx.1 mR_isTx.2.1 mR_isTx.2.2.1 mR_isTx.2.2.2.1 ∈ z_ws := z_in (i := 745) (by decide +kernel) rfl
abbrev mR_isState : z_MD := (⟨"NotaryHallModel", "isState", "(II)Z"⟩, prog_8_method_4_code, 3, (some .boolean), 0, fun _ => 0)
theorem woR_isState : Cond.code mR_isState.1 mR_isState.2.1 mR_isState.2.2.1 mR_isState.2.2.2.1 ∈ z_ws := z_in (i := 749) (by decide +kernel) rfl
abbrev mR_isInput : z_MD := (⟨"NotaryHallModel", "isInput", "(II)Z"⟩, prog_8_method_6_code, 4, (some .boolean), 0, fun _ => 0)
theorem woR_isInput : Cond.code mR_isInput.1 mR_isInput.2.1 mR_isInput.2.2.1 mR_isInput.2.2.2.1 ∈ z_ws := z_in (i := 753) (by decide +kernel) rfl
abbrev mR_addInput : z_MD := (⟨"NotaryHallModel", "addInput", "(II)V"⟩, prog_8_method_7_code, 3, none, 0, fun _ => 0)
theorem woR_addInput : Cond.code mR_addInput.1 mR_addInput.2.1 mR_addInput.2.2.1 mR_addInput.2.2.2.1 ∈ z_ws := z_in (i := 757) (by decide +kernel) rfl
abbrev mR_produce : z_MD := (⟨"NotaryHallModel", "produce", "(IIIII)I"⟩, prog_8_method_10_code, 6, (some .int), 0, fun _ => 0)
theorem woR_produce : Cond.code mR_produce.1 mR_produce.2.1 mR_produce.2.2.1 mR_produce.2.2.2.1 ∈ z_ws := z_in (i := 761) (by decide +kernel) rfl
abbrev mR_addOutput : z_MD := (⟨"NotaryHallModel", "addOutput", "(IIIII)V"⟩, prog_8_method_8_code, 7, none, 0, fun _ => 0)
theorem woR_addOutput : Cond.code mR_addOutput.1 mR_addOutput.2.1 mR_addOutput.2.2.1 mR_addOutput.2.2.2.1 ∈ z_ws := z_in (i := 765) (by decide +kernel) rfl
abbrev mR_bind : z_MD := (⟨"NotaryHallModel", "bind", "(III)I"⟩, prog_8_method_11_code, 4, (some .int), 0, fun _ => 0)
theorem woR_bind : Cond.code mR_bind.1 mR_bind.2.1 mR_bind.2.2.1 mR_bind.2.2.2.1 ∈ z_ws := z_in (i := 769) (by decide +kernel) rfl
abbrev mR_pay : z_MD := (⟨"NotaryHallModel", "pay", "(IIII)I"⟩, prog_8_method_16_code, 10, (some .int), 0, fun _ => 0)
theorem woR_pay : Cond.code mR_pay.1 mR_pay.2.1 mR_pay.2.2.1 mR_pay.2.2.2.1 ∈ z_ws := z_in (i := 773) (by decide +kernel) rfl
abbrev mR_coin : z_MD := (⟨"NotaryHallModel", "coin", "(III)Z"⟩, prog_8_method_15_code, 5, (some .boolean), 0, fun _ => 0)
theorem woR_coin : Cond.code mR_coin.1 mR_coin.2.1 mR_coin.2.2.1 mR_coin.2.2.2.1 ∈ z_ws := z_in (i := 777) (by decide +kernel) rfl
abbrev mR_inVault : z_MD := (⟨"NotaryHallModel", "inVault", "(II)Z"⟩, prog_8_method_13_code, 5, (some .boolean), 0, fun _ => 0)
theorem woR_inVault : Cond.code mR_inVault.1 mR_inVault.2.1 mR_inVault.2.2.1 mR_inVault.2.2.2.1 ∈ z_ws := z_in (i := 781) (by decide +kernel) rfl
abbrev mR_concerns : z_MD := (⟨"NotaryHallModel", "concerns", "(II)Z"⟩, prog_8_method_12_code, 3, (some .boolean), 0, fun _ => 0)
theorem woR_concerns : Cond.code mR_concerns.1 mR_concerns.2.1 mR_concerns.2.2.1 mR_concerns.2.2.2.1 ∈ z_ws := z_in (i := 785) (by decide +kernel) rfl
abbrev mR_held : z_MD := (⟨"NotaryHallModel", "held", "(II)Z"⟩, prog_8_method_14_code, 4, (some .boolean), 0, fun _ => 0)
theorem woR_held : Cond.code mR_held.1 mR_held.2.1 mR_held.2.2.1 mR_held.2.2.2.1 ∈ z_ws := z_in (i := 789) (by decide +kernel) rfl
abbrev mR_drop : z_MD := (⟨"NotaryHallModel", "drop", "(I)Z"⟩, prog_8_method_17_code, 2, (some .boolean), 0, fun _ => 0)
theorem woR_drop : Cond.code mR_drop.1 mR_drop.2.1 mR_drop.2.2.1 mR_drop.2.2.2.1 ∈ z_ws := z_in (i := 793) (by decide +kernel) rfl
abbrev mR_propose : z_MD := (⟨"NotaryHallModel", "propose", "(IZ)I"⟩, prog_8_method_26_code, 6, (some .int), 0, fun _ => 0)
theorem woR_propose : Cond.code mR_propose.1 mR_propose.2.1 mR_propose.2.2.1 mR_propose.2.2.2.1 ∈ z_ws := z_in (i := 797) (by decide +kernel) rfl
abbrev mR_valid : z_MD := (⟨"NotaryHallModel", "valid", "(I)Z"⟩, prog_8_method_23_code, 5, (some .boolean), 0, fun _ => 0)
theorem woR_valid : Cond.code mR_valid.1 mR_valid.2.1 mR_valid.2.2.1 mR_valid.2.2.2.1 ∈ z_ws := z_in (i := 801) (by decide +kernel) rfl
abbrev mR_alone : z_MD := (⟨"NotaryHallModel", "alone", "(I)Z"⟩, prog_8_method_22_code, 2, (some .boolean), 0, fun _ => 0)
theorem woR_alone : Cond.code mR_alone.1 mR_alone.2.1 mR_alone.2.2.1 mR_alone.2.2.2.1 ∈ z_ws := z_in (i := 805) (by decide +kernel) rfl
abbrev mR_needs : z_MD := (⟨"NotaryHallModel", "needs", "(I)I"⟩, prog_8_method_21_code, 4, (some .int), 0, fun _ => 0)
theorem woR_needs : Cond.code mR_needs.1 mR_needs.2.1 mR_needs.2.2.1 mR_needs.2.2.2.1 ∈ z_ws := z_in (i := 809) (by decide +kernel) rfl
abbrev mR_mustSign : z_MD := (⟨"NotaryHallModel", "mustSign", "(II)Z"⟩, prog_8_method_20_code, 5, (some .boolean), 0, fun _ => 0)
theorem woR_mustSign : Cond.code mR_mustSign.1 mR_mustSign.2.1 mR_mustSign.2.2.1 mR_mustSign.2.2.2.1 ∈ z_ws := z_in (i := 813) (by decide +kernel) rfl
abbrev mR_gain : z_MD := (⟨"NotaryHallModel", "gain", "(IIII)I"⟩, prog_8_method_18_code, 11, (some .int), 0, fun _ => 0)
theorem woR_gain : Cond.code mR_gain.1 mR_gain.2.1 mR_gain.2.2.1 mR_gain.2.2.2.1 ∈ z_ws := z_in (i := 817) (by decide +kernel) rfl
abbrev mR_letDown : z_MD := (⟨"NotaryHallModel", "letDown", "(II)Z"⟩, prog_8_method_19_code, 6, (some .boolean), 0, fun _ => 0)
theorem woR_letDown : Cond.code mR_letDown.1 mR_letDown.2.1 mR_letDown.2.2.1 mR_letDown.2.2.2.1 ∈ z_ws := z_in (i := 821) (by decide +kernel) rfl
abbrev mR_send : z_MD := (⟨"NotaryHallModel", "send", "(IIIII)I"⟩, prog_8_method_25_code, 8, (some .int), 0, fun _ => 0)
theorem woR_send : Cond.code mR_send.1 mR_send.2.1 mR_send.2.2.1 mR_send.2.2.2.1 ∈ z_ws := z_in (i := 825) (by decide +kernel) rfl
abbrev mR_deliver : z_MD := (⟨"NotaryHallModel", "deliver", "(IZ)I"⟩, prog_8_method_28_code, 11, (some .int), 0, fun _ => 0)
theorem woR_deliver : Cond.code mR_deliver.1 mR_deliver.2.1 mR_deliver.2.2.1 mR_deliver.2.2.2.1 ∈ z_ws := z_in (i := 829) (by decide +kernel) rfl
abbrev mR_ask : z_MD := (⟨"NotaryHallModel", "ask", "(IIZ)V"⟩, prog_8_method_29_code, 5, none, 0, fun _ => 0)
theorem woR_ask : Cond.code mR_ask.1 mR_ask.2.1 mR_ask.2.2.1 mR_ask.2.2.2.1 ∈ z_ws := z_in (i := 833) (by decide +kernel) rfl
abbrev mR_fetch : z_MD := (⟨"NotaryHallModel", "fetch", "(II)V"⟩, prog_8_method_27_code, 9, none, 0, fun _ => 0)
theorem woR_fetch : Cond.code mR_fetch.1 mR_fetch.2.1 mR_fetch.2.2.1 mR_fetch.2.2.2.1 ∈ z_ws := z_in (i := 837) (by decide +kernel) rfl
abbrev mR_reply : z_MD := (⟨"NotaryHallModel", "reply", "(IIIZ)I"⟩, prog_8_method_30_code, 7, (some .int), 0, fun _ => 0)
theorem woR_reply : Cond.code mR_reply.1 mR_reply.2.1 mR_reply.2.2.1 mR_reply.2.2.2.1 ∈ z_ws := z_in (i := 841) (by decide +kernel) rfl
abbrev mR_notarise : z_MD := (⟨"NotaryHallModel", "notarise", "(I)V"⟩, prog_8_method_32_code, 3, none, 0, fun _ => 0)
theorem woR_notarise : Cond.code mR_notarise.1 mR_notarise.2.1 mR_notarise.2.2.1 mR_notarise.2.2.2.1 ∈ z_ws := z_in (i := 845) (by decide +kernel) rfl
abbrev mR_judge : z_MD := (⟨"NotaryHallModel", "judge", "(I)I"⟩, prog_8_method_31_code, 3, (some .int), 0, fun _ => 0)
theorem woR_judge : Cond.code mR_judge.1 mR_judge.2.1 mR_judge.2.2.1 mR_judge.2.2.2.1 ∈ z_ws := z_in (i := 849) (by decide +kernel) rfl
abbrev mR_sound : z_MD := (⟨"NotaryHallModel", "sound", "(I)Z"⟩, prog_8_method_24_code, 2, (some .boolean), 0, fun _ => 0)
theorem woR_sound : Cond.code mR_sound.1 mR_sound.2.1 mR_sound.2.2.1 mR_sound.2.2.2.1 ∈ z_ws := z_in (i := 853) (by decide +kernel) rfl
abbrev mR_hear : z_MD := (⟨"NotaryHallModel", "hear", "(IIZ)I"⟩, prog_8_method_34_code, 6, (some .int), 0, fun _ => 0)
theorem woR_hear : Cond.code mR_hear.1 mR_hear.2.1 mR_hear.2.2.1 mR_hear.2.2.2.1 ∈ z_ws := z_in (i := 857) (by decide +kernel) rfl
abbrev mR_told : z_MD := (⟨"NotaryHallModel", "told", "(II)Z"⟩, prog_8_method_33_code, 5, (some .boolean), 0, fun _ => 0)
theorem woR_told : Cond.code mR_told.1 mR_told.2.1 mR_told.2.2.1 mR_told.2.2.2.1 ∈ z_ws := z_in (i := 861) (by decide +kernel) rfl
abbrev mR_close : z_MD := (⟨"NotaryHallModel", "close", "(IIZ)I"⟩, prog_8_method_35_code, 4, (some .int), 0, fun _ => 0)
theorem woR_close : Cond.code mR_close.1 mR_close.2.1 mR_close.2.2.1 mR_close.2.2.2.1 ∈ z_ws := z_in (i := 865) (by decide +kernel) rfl
abbrev mR_message : z_MD := (⟨"NotaryHallModel", "message", "(I)I"⟩, prog_8_method_36_code, 2, (some .int), 0, fun _ => 0)
theorem woR_message : Cond.code mR_message.1 mR_message.2.1 mR_message.2.2.1 mR_message.2.2.2.1 ∈ z_ws := z_in (i := 869) (by decide +kernel) rfl
abbrev mR_tick : z_MD := (⟨"NotaryHallModel", "tick", "(I)I"⟩, prog_8_method_37_code, 2, (some .int), 0, fun _ => 0)
theorem woR_tick : Cond.code mR_tick.1 mR_tick.2.1 mR_tick.2.2.1 mR_tick.2.2.2.1 ∈ z_ws := z_in (i := 873) (by decide +kernel) rfl
abbrev mR_consent : z_MD := (⟨"NotaryHallModel", "consent", "(IIZ)Z"⟩, prog_8_method_38_code, 4, (some .boolean), 0, fun _ => 0)
theorem woR_consent : Cond.code mR_consent.1 mR_consent.2.1 mR_consent.2.2.1 mR_consent.2.2.2.1 ∈ z_ws := z_in (i := 877) (by decide +kernel) rfl
abbrev mR_stage : z_MD := (⟨"NotaryHallModel", "stage", "(I)I"⟩, prog_8_method_39_code, 2, (some .int), 0, fun _ => 0)
theorem woR_stage : Cond.code mR_stage.1 mR_stage.2.1 mR_stage.2.2.1 mR_stage.2.2.2.1 ∈ z_ws := z_in (i := 881) (by decide +kernel) rfl
abbrev mR_signatures : z_MD := (⟨"NotaryHallModel", "signatures", "(IZ)I"⟩, prog_8_method_40_code, 3, (some .int), 0, fun _ => 0)
theorem woR_signatures : Cond.code mR_signatures.1 mR_signatures.2.1 mR_signatures.2.2.1 mR_signatures.2.2.2.1 ∈ z_ws := z_in (i := 885) (by decide +kernel) rfl
abbrev mR_verdict : z_MD := (⟨"NotaryHallModel", "verdict", "(I)I"⟩, prog_8_method_41_code, 2, (some .int), 0, fun _ => 0)
theorem woR_verdict : Cond.code mR_verdict.1 mR_verdict.2.1 mR_verdict.2.2.1 mR_verdict.2.2.2.1 ∈ z_ws := z_in (i := 889) (by decide +kernel) rfl
abbrev mR_spender : z_MD := (⟨"NotaryHallModel", "spender", "(II)I"⟩, prog_8_method_42_code, 3, (some .int), 0, fun _ => 0)
theorem woR_spender : Cond.code mR_spender.1 mR_spender.2.1 mR_spender.2.2.1 mR_spender.2.2.2.1 ∈ z_ws := z_in (i := 893) (by decide +kernel) rfl
abbrev mR_standing : z_MD := (⟨"NotaryHallModel", "standing", "(II)I"⟩, prog_8_method_43_code, 3, (some .int), 0, fun _ => 0)
theorem woR_standing : Cond.code mR_standing.1 mR_standing.2.1 mR_standing.2.2.1 mR_standing.2.2.2.1 ∈ z_ws := z_in (i := 897) (by decide +kernel) rfl
abbrev mR_vault : z_MD := (⟨"NotaryHallModel", "vault", "(II)I"⟩, prog_8_method_44_code, 6, (some .int), 0, fun _ => 0)
theorem woR_vault : Cond.code mR_vault.1 mR_vault.2.1 mR_vault.2.2.1 mR_vault.2.2.2.1 ∈ z_ws := z_in (i := 901) (by decide +kernel) rfl
abbrev mR_balance : z_MD := (⟨"NotaryHallModel", "balance", "(II)I"⟩, prog_8_method_45_code, 5, (some .int), 0, fun _ => 0)
theorem woR_balance : Cond.code mR_balance.1 mR_balance.2.1 mR_balance.2.2.1 mR_balance.2.2.2.1 ∈ z_ws := z_in (i := 905) (by decide +kernel) rfl
abbrev mR_fetched : z_MD := (⟨"NotaryHallModel", "fetched", "(I)I"⟩, prog_8_method_46_code, 2, (some .int), 0, fun _ => 0)
theorem woR_fetched : Cond.code mR_fetched.1 mR_fetched.2.1 mR_fetched.2.2.1 mR_fetched.2.2.2.1 ∈ z_ws := z_in (i := 909) (by decide +kernel) rfl
abbrev mR_tree : z_MD := (⟨"NotaryHallModel", "tree", "(III)I"⟩, prog_8_method_48_code, 8, (some .int), 0, fun _ => 0)
theorem woR_tree : Cond.code mR_tree.1 mR_tree.2.1 mR_tree.2.2.1 mR_tree.2.2.2.1 ∈ z_ws := z_in (i := 913) (by decide +kernel) rfl
abbrev mR_leaf : z_MD := (⟨"NotaryHallModel", "leaf", "(II)I"⟩, prog_8_method_47_code, 4, (some .int), 0, fun _ => 0)
theorem woR_leaf : Cond.code mR_leaf.1 mR_leaf.2.1 mR_leaf.2.2.1 mR_leaf.2.2.2.1 ∈ z_ws := z_in (i := 917) (by decide +kernel) rfl
end
section
-- what the bytes say (written by wip/whole/mknames.py)
theorem dH_init_0 : decode prog_1_method_1_code 0 = .ok (.aload_n 0, 1) := by decide +kernel
theorem dH_init_1 : decode prog_1_method_1_code 1 = .ok (.invokespecial 3, 3) := by decide +kernel
theorem dH_init_4 : decode prog_1_method_1_code 4 = .ok (.aload_n 0, 1) := by decide +kernel
theorem dH_init_5 : decode prog_1_method_1_code 5 = .ok (.bipush 20, 2) := by decide +kernel
theorem dH_init_7 : decode prog_1_method_1_code 7 = .ok (.anewarray 9, 3) := by decide +kernel
theorem dH_init_10 : decode prog_1_method_1_code 10 = .ok (.putfield 11, 3) := by decide +kernel
theorem dH_init_13 : decode prog_1_method_1_code 13 = .ok (.aload_n 0, 1) := by decide +kernel
theorem dH_init_14 : decode prog_1_method_1_code 14 = .ok (.iconst 4, 1) := by decide +kernel
theorem dH_init_15 : decode prog_1_method_1_code 15 = .ok (.anewarray 15, 3) := by decide +kernel
theorem dH_init_18 : decode prog_1_method_1_code 18 = .ok (.putfield 17, 3) := by decide +kernel
theorem dH_init_21 : decode prog_1_method_1_code 21 = .ok (.iconst 0, 1) := by decide +kernel
theorem dH_init_22 : decode prog_1_method_1_code 22 = .ok (.istore_n 1, 1) := by decide +kernel
theorem dH_init_23 : decode prog_1_method_1_code 23 = .ok (.iload_n 1, 1) := by decide +kernel
theorem dH_init_24 : decode prog_1_method_1_code 24 = .ok (.iconst 4, 1) := by decide +kernel
theorem dH_init_25 : decode prog_1_method_1_code 25 = .ok (.if_icmp .ge 22, 3) := by decide +kernel
theorem dH_init_28 : decode prog_1_method_1_code 28 = .ok (.aload_n 0, 1) := by decide +kernel
theorem dH_init_29 : decode prog_1_method_1_code 29 = .ok (.getfield 17, 3) := by decide +kernel
theorem dH_init_32 : decode prog_1_method_1_code 32 = .ok (.iload_n 1, 1) := by decide +kernel
theorem dH_init_33 : decode prog_1_method_1_code 33 = .ok (.new 15, 3) := by decide +kernel
theorem dH_init_36 : decode prog_1_method_1_code 36 = .ok (.dup, 1) := by decide +kernel
theorem dH_init_37 : decode prog_1_method_1_code 37 = .ok (.invokespecial 21, 3) := by decide +kernel
theorem dH_init_40 : decode prog_1_method_1_code 40 = .ok (.aastore, 1) := by decide +kernel
theorem dH_init_41 : decode prog_1_method_1_code 41 = .ok (.iinc 1 1, 3) := by decide +kernel
theorem dH_init_44 : decode prog_1_method_1_code 44 = .ok (.goto (-21), 3) := by decide +kernel
theorem dH_init_47 : decode prog_1_method_1_code 47 = .ok (.aload_n 0, 1) := by decide +kernel
theorem dH_init_48 : decode prog_1_method_1_code 48 = .ok (.new 22, 3) := by decide +kernel
theorem dH_init_51 : decode prog_1_method_1_code 51 = .ok (.dup, 1) := by decide +kernel
theorem dH_init_52 : decode prog_1_method_1_code 52 = .ok (.invokespecial 24, 3) := by decide +kernel
theorem dH_init_55 : decode prog_1_method_1_code 55 = .ok (.putfield 25, 3) := by decide +kernel
theorem dH_init_58 : decode prog_1_method_1_code 58 = .ok (.aload_n 0, 1) := by decide +kernel
theorem dH_init_59 : decode prog_1_method_1_code 59 = .ok (.bipush 80, 2) := by decide +kernel
theorem dH_init_61 : decode prog_1_method_1_code 61 = .ok (.newarray .int, 2) := by decide +kernel
theorem dH_init_63 : decode prog_1_method_1_code 63 = .ok (.putfield 29, 3) := by decide +kernel
theorem dH_init_66 : decode prog_1_method_1_code 66 = .ok (.aload_n 0, 1) := by decide +kernel
theorem dH_init_67 : decode prog_1_method_1_code 67 = .ok (.getfield 29, 3) := by decide +kernel
theorem dH_init_70 : decode prog_1_method_1_code 70 = .ok (.iconst (-1), 1) := by decide +kernel
theorem dH_init_71 : decode prog_1_method_1_code 71 = .ok (.invokestatic 33, 3) := by decide +kernel
theorem dH_init_74 : decode prog_1_method_1_code 74 = .ok (.aload_n 0, 1) := by decide +kernel
theorem dH_init_75 : decode prog_1_method_1_code 75 = .ok (.bipush 80, 2) := by decide +kernel
theorem dH_init_77 : decode prog_1_method_1_code 77 = .ok (.newarray .int, 2) := by decide +kernel
theorem dH_init_79 : decode prog_1_method_1_code 79 = .ok (.putfield 39, 3) := by decide +kernel
theorem dH_init_82 : decode prog_1_method_1_code 82 = .ok (.aload_n 0, 1) := by decide +kernel
theorem dH_init_83 : decode prog_1_method_1_code 83 = .ok (.bipush 16, 2) := by decide +kernel
theorem dH_init_85 : decode prog_1_method_1_code 85 = .ok (.newarray .int, 2) := by decide +kernel
theorem dH_init_87 : decode prog_1_method_1_code 87 = .ok (.putfield 42, 3) := by decide +kernel
theorem dH_init_90 : decode prog_1_method_1_code 90 = .ok (.return_, 1) := by decide +kernel
theorem dN_init_0 : decode prog_3_method_1_code 0 = .ok (.aload_n 0, 1) := by decide +kernel
theorem dN_init_1 : decode prog_3_method_1_code 1 = .ok (.invokespecial 3, 3) := by decide +kernel
theorem dN_init_4 : decode prog_3_method_1_code 4 = .ok (.aload_n 0, 1) := by decide +kernel
theorem dN_init_5 : decode prog_3_method_1_code 5 = .ok (.iconst 4, 1) := by decide +kernel
theorem dN_init_6 : decode prog_3_method_1_code 6 = .ok (.invokestatic 9, 3) := by decide +kernel
theorem dN_init_9 : decode prog_3_method_1_code 9 = .ok (.iconst 1, 1) := by decide +kernel
theorem dN_init_10 : decode prog_3_method_1_code 10 = .ok (.isub, 1) := by decide +kernel
theorem dN_init_11 : decode prog_3_method_1_code 11 = .ok (.putfield 13, 3) := by decide +kernel
theorem dN_init_14 : decode prog_3_method_1_code 14 = .ok (.return_, 1) := by decide +kernel
theorem dH_bit_0 : decode prog_1_method_48_code 0 = .ok (.iconst 1, 1) := by decide +kernel
theorem dH_bit_1 : decode prog_1_method_48_code 1 = .ok (.iload_n 0, 1) := by decide +kernel
theorem dH_bit_2 : decode prog_1_method_48_code 2 = .ok (.ishl, 1) := by decide +kernel
theorem dH_bit_3 : decode prog_1_method_48_code 3 = .ok (.ireturn, 1) := by decide +kernel
theorem dB_init_0 : decode prog_2_method_1_code 0 = .ok (.aload_n 0, 1) := by decide +kernel
theorem dB_init_1 : decode prog_2_method_1_code 1 = .ok (.invokespecial 3, 3) := by decide +kernel
theorem dB_init_4 : decode prog_2_method_1_code 4 = .ok (.aload_n 0, 1) := by decide +kernel
theorem dB_init_5 : decode prog_2_method_1_code 5 = .ok (.sipush 220, 3) := by decide +kernel
theorem dB_init_8 : decode prog_2_method_1_code 8 = .ok (.newarray .int, 2) := by decide +kernel
theorem dB_init_10 : decode prog_2_method_1_code 10 = .ok (.putfield 9, 3) := by decide +kernel
theorem dB_init_13 : decode prog_2_method_1_code 13 = .ok (.return_, 1) := by decide +kernel
theorem dH_begin_0 : decode prog_1_method_2_code 0 = .ok (.iload_n 1, 1) := by decide +kernel
theorem dH_begin_1 : decode prog_1_method_2_code 1 = .ok (.invokestatic 45, 3) := by decide +kernel
theorem dH_begin_4 : decode prog_1_method_2_code 4 = .ok (.ifCond .eq 27, 3) := by decide +kernel
theorem dH_begin_7 : decode prog_1_method_2_code 7 = .ok (.iload_n 2, 1) := by decide +kernel
theorem dH_begin_8 : decode prog_1_method_2_code 8 = .ok (.invokestatic 49, 3) := by decide +kernel
theorem dH_begin_11 : decode prog_1_method_2_code 11 = .ok (.ifCond .eq 20, 3) := by decide +kernel
theorem dH_begin_14 : decode prog_1_method_2_code 14 = .ok (.iload_n 3, 1) := by decide +kernel
theorem dH_begin_15 : decode prog_1_method_2_code 15 = .ok (.ifCond .lt 16, 3) := by decide +kernel
theorem dH_begin_18 : decode prog_1_method_2_code 18 = .ok (.iload_n 3, 1) := by decide +kernel
theorem dH_begin_19 : decode prog_1_method_2_code 19 = .ok (.iload 4, 2) := by decide +kernel
theorem dH_begin_21 : decode prog_1_method_2_code 21 = .ok (.if_icmp .ge 10, 3) := by decide +kernel
theorem dH_begin_24 : decode prog_1_method_2_code 24 = .ok (.iload 4, 2) := by decide +kernel
theorem dH_begin_26 : decode prog_1_method_2_code 26 = .ok (.ldc 52, 2) := by decide +kernel
theorem dH_begin_28 : decode prog_1_method_2_code 28 = .ok (.if_icmp .le 5, 3) := by decide +kernel
theorem dH_begin_31 : decode prog_1_method_2_code 31 = .ok (.iconst (-1), 1) := by decide +kernel
theorem dH_begin_32 : decode prog_1_method_2_code 32 = .ok (.ireturn, 1) := by decide +kernel
theorem dH_begin_33 : decode prog_1_method_2_code 33 = .ok (.aload_n 0, 1) := by decide +kernel
theorem dH_begin_34 : decode prog_1_method_2_code 34 = .ok (.getfield 53, 3) := by decide +kernel
theorem dH_begin_37 : decode prog_1_method_2_code 37 = .ok (.bipush 20, 2) := by decide +kernel
theorem dH_begin_39 : decode prog_1_method_2_code 39 = .ok (.if_icmp .lt 6, 3) := by decide +kernel
theorem dH_begin_42 : decode prog_1_method_2_code 42 = .ok (.bipush (-6), 2) := by decide +kernel
theorem dH_begin_44 : decode prog_1_method_2_code 44 = .ok (.ireturn, 1) := by decide +kernel
theorem dH_begin_45 : decode prog_1_method_2_code 45 = .ok (.aload_n 0, 1) := by decide +kernel
theorem dH_begin_46 : decode prog_1_method_2_code 46 = .ok (.getfield 53, 3) := by decide +kernel
theorem dH_begin_49 : decode prog_1_method_2_code 49 = .ok (.istore 5, 2) := by decide +kernel
theorem dH_begin_51 : decode prog_1_method_2_code 51 = .ok (.aload_n 0, 1) := by decide +kernel
theorem dH_begin_52 : decode prog_1_method_2_code 52 = .ok (.getfield 11, 3) := by decide +kernel
theorem dH_begin_55 : decode prog_1_method_2_code 55 = .ok (.iload 5, 2) := by decide +kernel
theorem dH_begin_57 : decode prog_1_method_2_code 57 = .ok (.new 9, 3) := by decide +kernel
theorem dH_begin_60 : decode prog_1_method_2_code 60 = .ok (.dup, 1) := by decide +kernel
theorem dH_begin_61 : decode prog_1_method_2_code 61 = .ok (.iload 5, 2) := by decide +kernel
theorem dH_begin_63 : decode prog_1_method_2_code 63 = .ok (.iload_n 1, 1) := by decide +kernel
theorem dH_begin_64 : decode prog_1_method_2_code 64 = .ok (.iload_n 2, 1) := by decide +kernel
theorem dH_begin_65 : decode prog_1_method_2_code 65 = .ok (.iload_n 3, 1) := by decide +kernel
theorem dH_begin_66 : decode prog_1_method_2_code 66 = .ok (.iload 4, 2) := by decide +kernel
theorem dH_begin_68 : decode prog_1_method_2_code 68 = .ok (.invokespecial 57, 3) := by decide +kernel
theorem dH_begin_71 : decode prog_1_method_2_code 71 = .ok (.aastore, 1) := by decide +kernel
theorem dH_begin_72 : decode prog_1_method_2_code 72 = .ok (.aload_n 0, 1) := by decide +kernel
theorem dH_begin_73 : decode prog_1_method_2_code 73 = .ok (.dup, 1) := by decide +kernel
theorem dH_begin_74 : decode prog_1_method_2_code 74 = .ok (.getfield 53, 3) := by decide +kernel
theorem dH_begin_77 : decode prog_1_method_2_code 77 = .ok (.iconst 1, 1) := by decide +kernel
theorem dH_begin_78 : decode prog_1_method_2_code 78 = .ok (.iadd, 1) := by decide +kernel
theorem dH_begin_79 : decode prog_1_method_2_code 79 = .ok (.putfield 53, 3) := by decide +kernel
theorem dH_begin_82 : decode prog_1_method_2_code 82 = .ok (.iload 5, 2) := by decide +kernel
theorem dH_begin_84 : decode prog_1_method_2_code 84 = .ok (.ireturn, 1) := by decide +kernel
theorem dH_isNode_0 : decode prog_1_method_44_code 0 = .ok (.iload_n 0, 1) := by decide +kernel
theorem dH_isNode_1 : decode prog_1_method_44_code 1 = .ok (.ifCond .lt 12, 3) := by decide +kernel
theorem dH_isNode_4 : decode prog_1_method_44_code 4 = .ok (.iload_n 0, 1) := by decide +kernel
theorem dH_isNode_5 : decode prog_1_method_44_code 5 = .ok (.iconst 4, 1) := by decide +kernel
theorem dH_isNode_6 : decode prog_1_method_44_code 6 = .ok (.if_icmp .ge 7, 3) := by decide +kernel
theorem dH_isNode_9 : decode prog_1_method_44_code 9 = .ok (.iconst 1, 1) := by decide +kernel
theorem dH_isNode_10 : decode prog_1_method_44_code 10 = .ok (.goto 4, 3) := by decide +kernel
theorem dH_isNode_13 : decode prog_1_method_44_code 13 = .ok (.iconst 0, 1) := by decide +kernel
theorem dH_isNode_14 : decode prog_1_method_44_code 14 = .ok (.ireturn, 1) := by decide +kernel
theorem dH_isNotary_0 : decode prog_1_method_45_code 0 = .ok (.iload_n 0, 1) := by decide +kernel
theorem dH_isNotary_1 : decode prog_1_method_45_code 1 = .ok (.iconst 4, 1) := by decide +kernel
theorem dH_isNotary_2 : decode prog_1_method_45_code 2 = .ok (.if_icmp .eq 8, 3) := by decide +kernel
theorem dH_isNotary_5 : decode prog_1_method_45_code 5 = .ok (.iload_n 0, 1) := by decide +kernel
theorem dH_isNotary_6 : decode prog_1_method_45_code 6 = .ok (.iconst 5, 1) := by decide +kernel
theorem dH_isNotary_7 : decode prog_1_method_45_code 7 = .ok (.if_icmp .ne 7, 3) := by decide +kernel
theorem dH_isNotary_10 : decode prog_1_method_45_code 10 = .ok (.iconst 1, 1) := by decide +kernel
theorem dH_isNotary_11 : decode prog_1_method_45_code 11 = .ok (.goto 4, 3) := by decide +kernel
theorem dH_isNotary_14 : decode prog_1_method_45_code 14 = .ok (.iconst 0, 1) := by decide +kernel
theorem dH_isNotary_15 : decode prog_1_method_45_code 15 = .ok (.ireturn, 1) := by decide +kernel
theorem dT_init_0 : decode prog_6_method_1_code 0 = .ok (.aload_n 0, 1) := by decide +kernel
theorem dT_init_1 : decode prog_6_method_1_code 1 = .ok (.invokespecial 3, 3) := by decide +kernel
theorem dT_init_4 : decode prog_6_method_1_code 4 = .ok (.aload_n 0, 1) := by decide +kernel
theorem dT_init_5 : decode prog_6_method_1_code 5 = .ok (.iload_n 1, 1) := by decide +kernel
theorem dT_init_6 : decode prog_6_method_1_code 6 = .ok (.putfield 9, 3) := by decide +kernel
theorem dT_init_9 : decode prog_6_method_1_code 9 = .ok (.aload_n 0, 1) := by decide +kernel
theorem dT_init_10 : decode prog_6_method_1_code 10 = .ok (.iload_n 2, 1) := by decide +kernel
theorem dT_init_11 : decode prog_6_method_1_code 11 = .ok (.putfield 15, 3) := by decide +kernel
theorem dT_init_14 : decode prog_6_method_1_code 14 = .ok (.aload_n 0, 1) := by decide +kernel
theorem dT_init_15 : decode prog_6_method_1_code 15 = .ok (.iload_n 3, 1) := by decide +kernel
theorem dT_init_16 : decode prog_6_method_1_code 16 = .ok (.putfield 18, 3) := by decide +kernel
theorem dT_init_19 : decode prog_6_method_1_code 19 = .ok (.aload_n 0, 1) := by decide +kernel
theorem dT_init_20 : decode prog_6_method_1_code 20 = .ok (.iload 4, 2) := by decide +kernel
theorem dT_init_22 : decode prog_6_method_1_code 22 = .ok (.putfield 21, 3) := by decide +kernel
theorem dT_init_25 : decode prog_6_method_1_code 25 = .ok (.aload_n 0, 1) := by decide +kernel
theorem dT_init_26 : decode prog_6_method_1_code 26 = .ok (.iload 5, 2) := by decide +kernel
theorem dT_init_28 : decode prog_6_method_1_code 28 = .ok (.putfield 24, 3) := by decide +kernel
theorem dT_init_31 : decode prog_6_method_1_code 31 = .ok (.aload_n 0, 1) := by decide +kernel
theorem dT_init_32 : decode prog_6_method_1_code 32 = .ok (.new 27, 3) := by decide +kernel
theorem dT_init_35 : decode prog_6_method_1_code 35 = .ok (.dup, 1) := by decide +kernel
theorem dT_init_36 : decode prog_6_method_1_code 36 = .ok (.invokespecial 29, 3) := by decide +kernel
theorem dT_init_39 : decode prog_6_method_1_code 39 = .ok (.putfield 30, 3) := by decide +kernel
theorem dT_init_42 : decode prog_6_method_1_code 42 = .ok (.aload_n 0, 1) := by decide +kernel
theorem dT_init_43 : decode prog_6_method_1_code 43 = .ok (.new 27, 3) := by decide +kernel
theorem dT_init_46 : decode prog_6_method_1_code 46 = .ok (.dup, 1) := by decide +kernel
theorem dT_init_47 : decode prog_6_method_1_code 47 = .ok (.invokespecial 29, 3) := by decide +kernel
theorem dT_init_50 : decode prog_6_method_1_code 50 = .ok (.putfield 34, 3) := by decide +kernel
theorem dT_init_53 : decode prog_6_method_1_code 53 = .ok (.aload_n 0, 1) := by decide +kernel
theorem dT_init_54 : decode prog_6_method_1_code 54 = .ok (.iconst 0, 1) := by decide +kernel
theorem dT_init_55 : decode prog_6_method_1_code 55 = .ok (.putfield 37, 3) := by decide +kernel
theorem dT_init_58 : decode prog_6_method_1_code 58 = .ok (.aload_n 0, 1) := by decide +kernel
theorem dT_init_59 : decode prog_6_method_1_code 59 = .ok (.iconst 0, 1) := by decide +kernel
theorem dT_init_60 : decode prog_6_method_1_code 60 = .ok (.putfield 40, 3) := by decide +kernel
theorem dT_init_63 : decode prog_6_method_1_code 63 = .ok (.return_, 1) := by decide +kernel
theorem dL_init_0 : decode prog_5_method_1_code 0 = .ok (.aload_n 0, 1) := by decide +kernel
theorem dL_init_1 : decode prog_5_method_1_code 1 = .ok (.invokespecial 3, 3) := by decide +kernel
theorem dL_init_4 : decode prog_5_method_1_code 4 = .ok (.aload_n 0, 1) := by decide +kernel
theorem dL_init_5 : decode prog_5_method_1_code 5 = .ok (.iconst 4, 1) := by decide +kernel
theorem dL_init_6 : decode prog_5_method_1_code 6 = .ok (.anewarray 9, 3) := by decide +kernel
theorem dL_init_9 : decode prog_5_method_1_code 9 = .ok (.putfield 11, 3) := by decide +kernel
theorem dL_init_12 : decode prog_5_method_1_code 12 = .ok (.return_, 1) := by decide +kernel
theorem dH_consume_0 : decode prog_1_method_3_code 0 = .ok (.aload_n 0, 1) := by decide +kernel
theorem dH_consume_1 : decode prog_1_method_3_code 1 = .ok (.iload_n 1, 1) := by decide +kernel
theorem dH_consume_2 : decode prog_1_method_3_code 2 = .ok (.invokevirtual 60, 3) := by decide +kernel
theorem dH_consume_5 : decode prog_1_method_3_code 5 = .ok (.astore 4, 2) := by decide +kernel
theorem dH_consume_7 : decode prog_1_method_3_code 7 = .ok (.aload_n 0, 1) := by decide +kernel
theorem dH_consume_8 : decode prog_1_method_3_code 8 = .ok (.iload_n 2, 1) := by decide +kernel
theorem dH_consume_9 : decode prog_1_method_3_code 9 = .ok (.invokevirtual 60, 3) := by decide +kernel
theorem dH_consume_12 : decode prog_1_method_3_code 12 = .ok (.astore 5, 2) := by decide +kernel
theorem dH_consume_14 : decode prog_1_method_3_code 14 = .ok (.aload_n 0, 1) := by decide +kernel
theorem dH_consume_15 : decode prog_1_method_3_code 15 = .ok (.iload_n 2, 1) := by decide +kernel
theorem dH_consume_16 : decode prog_1_method_3_code 16 = .ok (.iload_n 3, 1) := by decide +kernel
theorem dH_consume_17 : decode prog_1_method_3_code 17 = .ok (.invokevirtual 64, 3) := by decide +kernel
theorem dH_consume_20 : decode prog_1_method_3_code 20 = .ok (.astore 6, 2) := by decide +kernel
theorem dH_consume_22 : decode prog_1_method_3_code 22 = .ok (.aload 4, 2) := by decide +kernel
theorem dH_consume_24 : decode prog_1_method_3_code 24 = .ok (.ifnull 13, 3) := by decide +kernel
theorem dH_consume_27 : decode prog_1_method_3_code 27 = .ok (.aload 5, 2) := by decide +kernel
theorem dH_consume_29 : decode prog_1_method_3_code 29 = .ok (.ifnull 8, 3) := by decide +kernel
theorem dH_consume_32 : decode prog_1_method_3_code 32 = .ok (.aload 6, 2) := by decide +kernel
theorem dH_consume_34 : decode prog_1_method_3_code 34 = .ok (.ifnonnull 5, 3) := by decide +kernel
theorem dH_consume_37 : decode prog_1_method_3_code 37 = .ok (.iconst (-1), 1) := by decide +kernel
theorem dH_consume_38 : decode prog_1_method_3_code 38 = .ok (.ireturn, 1) := by decide +kernel
theorem dH_consume_39 : decode prog_1_method_3_code 39 = .ok (.aload 4, 2) := by decide +kernel
theorem dH_consume_41 : decode prog_1_method_3_code 41 = .ok (.getfield 68, 3) := by decide +kernel
theorem dH_consume_44 : decode prog_1_method_3_code 44 = .ok (.ifCond .eq 6, 3) := by decide +kernel
theorem dH_consume_47 : decode prog_1_method_3_code 47 = .ok (.bipush (-2), 2) := by decide +kernel
theorem dH_consume_49 : decode prog_1_method_3_code 49 = .ok (.ireturn, 1) := by decide +kernel
theorem dH_consume_50 : decode prog_1_method_3_code 50 = .ok (.aload_n 0, 1) := by decide +kernel
theorem dH_consume_51 : decode prog_1_method_3_code 51 = .ok (.getfield 17, 3) := by decide +kernel
theorem dH_consume_54 : decode prog_1_method_3_code 54 = .ok (.aload 4, 2) := by decide +kernel
theorem dH_consume_56 : decode prog_1_method_3_code 56 = .ok (.getfield 71, 3) := by decide +kernel
theorem dH_consume_59 : decode prog_1_method_3_code 59 = .ok (.aaload, 1) := by decide +kernel
theorem dH_consume_60 : decode prog_1_method_3_code 60 = .ok (.getfield 74, 3) := by decide +kernel
theorem dH_consume_63 : decode prog_1_method_3_code 63 = .ok (.iload_n 2, 1) := by decide +kernel
theorem dH_consume_64 : decode prog_1_method_3_code 64 = .ok (.invokestatic 77, 3) := by decide +kernel
theorem dH_consume_67 : decode prog_1_method_3_code 67 = .ok (.ifCond .ne 6, 3) := by decide +kernel
theorem dH_consume_70 : decode prog_1_method_3_code 70 = .ok (.bipush (-3), 2) := by decide +kernel
theorem dH_consume_72 : decode prog_1_method_3_code 72 = .ok (.ireturn, 1) := by decide +kernel
theorem dH_consume_73 : decode prog_1_method_3_code 73 = .ok (.aload 5, 2) := by decide +kernel
theorem dH_consume_75 : decode prog_1_method_3_code 75 = .ok (.getfield 81, 3) := by decide +kernel
theorem dH_consume_78 : decode prog_1_method_3_code 78 = .ok (.aload 4, 2) := by decide +kernel
theorem dH_consume_80 : decode prog_1_method_3_code 80 = .ok (.getfield 81, 3) := by decide +kernel
theorem dH_consume_83 : decode prog_1_method_3_code 83 = .ok (.if_icmp .eq 6, 3) := by decide +kernel
theorem dH_consume_86 : decode prog_1_method_3_code 86 = .ok (.bipush (-4), 2) := by decide +kernel
theorem dH_consume_88 : decode prog_1_method_3_code 88 = .ok (.ireturn, 1) := by decide +kernel
theorem dH_consume_89 : decode prog_1_method_3_code 89 = .ok (.aload 4, 2) := by decide +kernel
theorem dH_consume_91 : decode prog_1_method_3_code 91 = .ok (.getfield 84, 3) := by decide +kernel
theorem dH_consume_94 : decode prog_1_method_3_code 94 = .ok (.aload 6, 2) := by decide +kernel
theorem dH_consume_96 : decode prog_1_method_3_code 96 = .ok (.getfield 88, 3) := by decide +kernel
theorem dH_consume_99 : decode prog_1_method_3_code 99 = .ok (.invokevirtual 93, 3) := by decide +kernel
theorem dH_consume_102 : decode prog_1_method_3_code 102 = .ok (.ifCond .eq 6, 3) := by decide +kernel
theorem dH_consume_105 : decode prog_1_method_3_code 105 = .ok (.bipush (-5), 2) := by decide +kernel
theorem dH_consume_107 : decode prog_1_method_3_code 107 = .ok (.ireturn, 1) := by decide +kernel
theorem dH_consume_108 : decode prog_1_method_3_code 108 = .ok (.aload 4, 2) := by decide +kernel
theorem dH_consume_110 : decode prog_1_method_3_code 110 = .ok (.getfield 84, 3) := by decide +kernel
theorem dH_consume_113 : decode prog_1_method_3_code 113 = .ok (.iconst 1, 1) := by decide +kernel
theorem dH_consume_114 : decode prog_1_method_3_code 114 = .ok (.invokevirtual 98, 3) := by decide +kernel
theorem dH_consume_117 : decode prog_1_method_3_code 117 = .ok (.ifCond .ne 6, 3) := by decide +kernel
theorem dH_consume_120 : decode prog_1_method_3_code 120 = .ok (.bipush (-6), 2) := by decide +kernel
theorem dH_consume_122 : decode prog_1_method_3_code 122 = .ok (.ireturn, 1) := by decide +kernel
theorem dH_consume_123 : decode prog_1_method_3_code 123 = .ok (.aload 4, 2) := by decide +kernel
theorem dH_consume_125 : decode prog_1_method_3_code 125 = .ok (.aload 6, 2) := by decide +kernel
theorem dH_consume_127 : decode prog_1_method_3_code 127 = .ok (.aload 5, 2) := by decide +kernel
theorem dH_consume_129 : decode prog_1_method_3_code 129 = .ok (.invokevirtual 101, 3) := by decide +kernel
theorem dH_consume_132 : decode prog_1_method_3_code 132 = .ok (.ireturn, 1) := by decide +kernel
theorem dH_find_0 : decode prog_1_method_40_code 0 = .ok (.iload_n 1, 1) := by decide +kernel
theorem dH_find_1 : decode prog_1_method_40_code 1 = .ok (.ifCond .lt 20, 3) := by decide +kernel
theorem dH_find_4 : decode prog_1_method_40_code 4 = .ok (.iload_n 1, 1) := by decide +kernel
theorem dH_find_5 : decode prog_1_method_40_code 5 = .ok (.aload_n 0, 1) := by decide +kernel
theorem dH_find_6 : decode prog_1_method_40_code 6 = .ok (.getfield 53, 3) := by decide +kernel
theorem dH_find_9 : decode prog_1_method_40_code 9 = .ok (.if_icmp .ge 12, 3) := by decide +kernel
theorem dH_find_12 : decode prog_1_method_40_code 12 = .ok (.aload_n 0, 1) := by decide +kernel
theorem dH_find_13 : decode prog_1_method_40_code 13 = .ok (.getfield 11, 3) := by decide +kernel
theorem dH_find_16 : decode prog_1_method_40_code 16 = .ok (.iload_n 1, 1) := by decide +kernel
theorem dH_find_17 : decode prog_1_method_40_code 17 = .ok (.aaload, 1) := by decide +kernel
theorem dH_find_18 : decode prog_1_method_40_code 18 = .ok (.goto 4, 3) := by decide +kernel
theorem dH_find_21 : decode prog_1_method_40_code 21 = .ok (.aconst_null, 1) := by decide +kernel
theorem dH_find_22 : decode prog_1_method_40_code 22 = .ok (.areturn, 1) := by decide +kernel
theorem dH_findState_0 : decode prog_1_method_41_code 0 = .ok (.aload_n 0, 1) := by decide +kernel
theorem dH_findState_1 : decode prog_1_method_41_code 1 = .ok (.iload_n 1, 1) := by decide +kernel
theorem dH_findState_2 : decode prog_1_method_41_code 2 = .ok (.invokevirtual 60, 3) := by decide +kernel
theorem dH_findState_5 : decode prog_1_method_41_code 5 = .ok (.astore_n 3, 1) := by decide +kernel
theorem dH_findState_6 : decode prog_1_method_41_code 6 = .ok (.aload_n 3, 1) := by decide +kernel
theorem dH_findState_7 : decode prog_1_method_41_code 7 = .ok (.ifnull 18, 3) := by decide +kernel
theorem dH_findState_10 : decode prog_1_method_41_code 10 = .ok (.iload_n 2, 1) := by decide +kernel
theorem dH_findState_11 : decode prog_1_method_41_code 11 = .ok (.ifCond .lt 14, 3) := by decide +kernel
theorem dH_findState_14 : decode prog_1_method_41_code 14 = .ok (.iload_n 2, 1) := by decide +kernel
theorem dH_findState_15 : decode prog_1_method_41_code 15 = .ok (.aload_n 3, 1) := by decide +kernel
theorem dH_findState_16 : decode prog_1_method_41_code 16 = .ok (.getfield 112, 3) := by decide +kernel
theorem dH_findState_19 : decode prog_1_method_41_code 19 = .ok (.getfield 299, 3) := by decide +kernel
theorem dH_findState_22 : decode prog_1_method_41_code 22 = .ok (.if_icmp .lt 5, 3) := by decide +kernel
theorem dH_findState_25 : decode prog_1_method_41_code 25 = .ok (.aconst_null, 1) := by decide +kernel
theorem dH_findState_26 : decode prog_1_method_41_code 26 = .ok (.areturn, 1) := by decide +kernel
theorem dH_findState_27 : decode prog_1_method_41_code 27 = .ok (.aload_n 3, 1) := by decide +kernel
theorem dH_findState_28 : decode prog_1_method_41_code 28 = .ok (.getfield 112, 3) := by decide +kernel
theorem dH_findState_31 : decode prog_1_method_41_code 31 = .ok (.getfield 300, 3) := by decide +kernel
theorem dH_findState_34 : decode prog_1_method_41_code 34 = .ok (.iload_n 2, 1) := by decide +kernel
theorem dH_findState_35 : decode prog_1_method_41_code 35 = .ok (.aaload, 1) := by decide +kernel
theorem dH_findState_36 : decode prog_1_method_41_code 36 = .ok (.areturn, 1) := by decide +kernel
theorem dH_has_0 : decode prog_1_method_49_code 0 = .ok (.iload_n 0, 1) := by decide +kernel
theorem dH_has_1 : decode prog_1_method_49_code 1 = .ok (.iload_n 1, 1) := by decide +kernel
theorem dH_has_2 : decode prog_1_method_49_code 2 = .ok (.invokestatic 186, 3) := by decide +kernel
theorem dH_has_5 : decode prog_1_method_49_code 5 = .ok (.iand, 1) := by decide +kernel
theorem dH_has_6 : decode prog_1_method_49_code 6 = .ok (.ifCond .eq 7, 3) := by decide +kernel
theorem dH_has_9 : decode prog_1_method_49_code 9 = .ok (.iconst 1, 1) := by decide +kernel
theorem dH_has_10 : decode prog_1_method_49_code 10 = .ok (.goto 4, 3) := by decide +kernel
theorem dH_has_13 : decode prog_1_method_49_code 13 = .ok (.iconst 0, 1) := by decide +kernel
theorem dH_has_14 : decode prog_1_method_49_code 14 = .ok (.ireturn, 1) := by decide +kernel
theorem dL_holds_0 : decode prog_5_method_4_code 0 = .ok (.iconst 0, 1) := by decide +kernel
theorem dL_holds_1 : decode prog_5_method_4_code 1 = .ok (.istore_n 2, 1) := by decide +kernel
theorem dL_holds_2 : decode prog_5_method_4_code 2 = .ok (.iload_n 2, 1) := by decide +kernel
theorem dL_holds_3 : decode prog_5_method_4_code 3 = .ok (.aload_n 0, 1) := by decide +kernel
theorem dL_holds_4 : decode prog_5_method_4_code 4 = .ok (.getfield 17, 3) := by decide +kernel
theorem dL_holds_7 : decode prog_5_method_4_code 7 = .ok (.if_icmp .ge 24, 3) := by decide +kernel
theorem dL_holds_10 : decode prog_5_method_4_code 10 = .ok (.aload_n 0, 1) := by decide +kernel
theorem dL_holds_11 : decode prog_5_method_4_code 11 = .ok (.getfield 11, 3) := by decide +kernel
theorem dL_holds_14 : decode prog_5_method_4_code 14 = .ok (.iload_n 2, 1) := by decide +kernel
theorem dL_holds_15 : decode prog_5_method_4_code 15 = .ok (.aaload, 1) := by decide +kernel
theorem dL_holds_16 : decode prog_5_method_4_code 16 = .ok (.getfield 21, 3) := by decide +kernel
theorem dL_holds_19 : decode prog_5_method_4_code 19 = .ok (.iload_n 1, 1) := by decide +kernel
theorem dL_holds_20 : decode prog_5_method_4_code 20 = .ok (.if_icmp .ne 5, 3) := by decide +kernel
theorem dL_holds_23 : decode prog_5_method_4_code 23 = .ok (.iconst 1, 1) := by decide +kernel
theorem dL_holds_24 : decode prog_5_method_4_code 24 = .ok (.ireturn, 1) := by decide +kernel
theorem dL_holds_25 : decode prog_5_method_4_code 25 = .ok (.iinc 2 1, 3) := by decide +kernel
theorem dL_holds_28 : decode prog_5_method_4_code 28 = .ok (.goto (-26), 3) := by decide +kernel
theorem dL_holds_31 : decode prog_5_method_4_code 31 = .ok (.iconst 0, 1) := by decide +kernel
theorem dL_holds_32 : decode prog_5_method_4_code 32 = .ok (.ireturn, 1) := by decide +kernel
theorem dL_hasRoomFor_0 : decode prog_5_method_2_code 0 = .ok (.iload_n 1, 1) := by decide +kernel
theorem dL_hasRoomFor_1 : decode prog_5_method_2_code 1 = .ok (.iconst 4, 1) := by decide +kernel
theorem dL_hasRoomFor_2 : decode prog_5_method_2_code 2 = .ok (.aload_n 0, 1) := by decide +kernel
theorem dL_hasRoomFor_3 : decode prog_5_method_2_code 3 = .ok (.getfield 17, 3) := by decide +kernel
theorem dL_hasRoomFor_6 : decode prog_5_method_2_code 6 = .ok (.isub, 1) := by decide +kernel
theorem dL_hasRoomFor_7 : decode prog_5_method_2_code 7 = .ok (.if_icmp .gt 7, 3) := by decide +kernel
theorem dL_hasRoomFor_10 : decode prog_5_method_2_code 10 = .ok (.iconst 1, 1) := by decide +kernel
theorem dL_hasRoomFor_11 : decode prog_5_method_2_code 11 = .ok (.goto 4, 3) := by decide +kernel
theorem dL_hasRoomFor_14 : decode prog_5_method_2_code 14 = .ok (.iconst 0, 1) := by decide +kernel
theorem dL_hasRoomFor_15 : decode prog_5_method_2_code 15 = .ok (.ireturn, 1) := by decide +kernel
theorem dT_addInput_0 : decode prog_6_method_2_code 0 = .ok (.aload_n 0, 1) := by decide +kernel
theorem dT_addInput_1 : decode prog_6_method_2_code 1 = .ok (.dup, 1) := by decide +kernel
theorem dT_addInput_2 : decode prog_6_method_2_code 2 = .ok (.getfield 43, 3) := by decide +kernel
theorem dT_addInput_5 : decode prog_6_method_2_code 5 = .ok (.aload_n 2, 1) := by decide +kernel
theorem dT_addInput_6 : decode prog_6_method_2_code 6 = .ok (.getfield 9, 3) := by decide +kernel
theorem dT_addInput_9 : decode prog_6_method_2_code 9 = .ok (.invokestatic 46, 3) := by decide +kernel
theorem dT_addInput_12 : decode prog_6_method_2_code 12 = .ok (.aload_n 2, 1) := by decide +kernel
theorem dT_addInput_13 : decode prog_6_method_2_code 13 = .ok (.getfield 43, 3) := by decide +kernel
theorem dT_addInput_16 : decode prog_6_method_2_code 16 = .ok (.ior, 1) := by decide +kernel
theorem dT_addInput_17 : decode prog_6_method_2_code 17 = .ok (.ior, 1) := by decide +kernel
theorem dT_addInput_18 : decode prog_6_method_2_code 18 = .ok (.putfield 43, 3) := by decide +kernel
theorem dT_addInput_21 : decode prog_6_method_2_code 21 = .ok (.aload_n 0, 1) := by decide +kernel
theorem dT_addInput_22 : decode prog_6_method_2_code 22 = .ok (.getfield 30, 3) := by decide +kernel
theorem dT_addInput_25 : decode prog_6_method_2_code 25 = .ok (.aload_n 1, 1) := by decide +kernel
theorem dT_addInput_26 : decode prog_6_method_2_code 26 = .ok (.invokevirtual 50, 3) := by decide +kernel
theorem dT_addInput_29 : decode prog_6_method_2_code 29 = .ok (.ireturn, 1) := by decide +kernel
theorem dL_add_0 : decode prog_5_method_3_code 0 = .ok (.aload_n 0, 1) := by decide +kernel
theorem dL_add_1 : decode prog_5_method_3_code 1 = .ok (.getfield 17, 3) := by decide +kernel
theorem dL_add_4 : decode prog_5_method_3_code 4 = .ok (.iconst 4, 1) := by decide +kernel
theorem dL_add_5 : decode prog_5_method_3_code 5 = .ok (.if_icmp .lt 6, 3) := by decide +kernel
theorem dL_add_8 : decode prog_5_method_3_code 8 = .ok (.bipush (-6), 2) := by decide +kernel
theorem dL_add_10 : decode prog_5_method_3_code 10 = .ok (.ireturn, 1) := by decide +kernel
theorem dL_add_11 : decode prog_5_method_3_code 11 = .ok (.aload_n 0, 1) := by decide +kernel
theorem dL_add_12 : decode prog_5_method_3_code 12 = .ok (.getfield 11, 3) := by decide +kernel
theorem dL_add_15 : decode prog_5_method_3_code 15 = .ok (.aload_n 0, 1) := by decide +kernel
theorem dL_add_16 : decode prog_5_method_3_code 16 = .ok (.getfield 17, 3) := by decide +kernel
theorem dL_add_19 : decode prog_5_method_3_code 19 = .ok (.aload_n 1, 1) := by decide +kernel
theorem dL_add_20 : decode prog_5_method_3_code 20 = .ok (.aastore, 1) := by decide +kernel
theorem dL_add_21 : decode prog_5_method_3_code 21 = .ok (.aload_n 0, 1) := by decide +kernel
theorem dL_add_22 : decode prog_5_method_3_code 22 = .ok (.dup, 1) := by decide +kernel
theorem dL_add_23 : decode prog_5_method_3_code 23 = .ok (.getfield 17, 3) := by decide +kernel
theorem dL_add_26 : decode prog_5_method_3_code 26 = .ok (.iconst 1, 1) := by decide +kernel
theorem dL_add_27 : decode prog_5_method_3_code 27 = .ok (.iadd, 1) := by decide +kernel
theorem dL_add_28 : decode prog_5_method_3_code 28 = .ok (.putfield 17, 3) := by decide +kernel
theorem dL_add_31 : decode prog_5_method_3_code 31 = .ok (.aload_n 0, 1) := by decide +kernel
theorem dL_add_32 : decode prog_5_method_3_code 32 = .ok (.getfield 17, 3) := by decide +kernel
theorem dL_add_35 : decode prog_5_method_3_code 35 = .ok (.iconst 1, 1) := by decide +kernel
theorem dL_add_36 : decode prog_5_method_3_code 36 = .ok (.isub, 1) := by decide +kernel
theorem dL_add_37 : decode prog_5_method_3_code 37 = .ok (.ireturn, 1) := by decide +kernel
theorem dH_produce_0 : decode prog_1_method_4_code 0 = .ok (.aload_n 0, 1) := by decide +kernel
theorem dH_produce_1 : decode prog_1_method_4_code 1 = .ok (.iload_n 1, 1) := by decide +kernel
theorem dH_produce_2 : decode prog_1_method_4_code 2 = .ok (.invokevirtual 60, 3) := by decide +kernel
theorem dH_produce_5 : decode prog_1_method_4_code 5 = .ok (.astore 6, 2) := by decide +kernel
theorem dH_produce_7 : decode prog_1_method_4_code 7 = .ok (.aload 6, 2) := by decide +kernel
theorem dH_produce_9 : decode prog_1_method_4_code 9 = .ok (.ifnull 21, 3) := by decide +kernel
theorem dH_produce_12 : decode prog_1_method_4_code 12 = .ok (.iload_n 2, 1) := by decide +kernel
theorem dH_produce_13 : decode prog_1_method_4_code 13 = .ok (.iload_n 3, 1) := by decide +kernel
theorem dH_produce_14 : decode prog_1_method_4_code 14 = .ok (.iload 4, 2) := by decide +kernel
theorem dH_produce_16 : decode prog_1_method_4_code 16 = .ok (.invokestatic 105, 3) := by decide +kernel
theorem dH_produce_19 : decode prog_1_method_4_code 19 = .ok (.ifCond .eq 11, 3) := by decide +kernel
theorem dH_produce_22 : decode prog_1_method_4_code 22 = .ok (.iload 5, 2) := by decide +kernel
theorem dH_produce_24 : decode prog_1_method_4_code 24 = .ok (.invokestatic 109, 3) := by decide +kernel
theorem dH_produce_27 : decode prog_1_method_4_code 27 = .ok (.ifCond .ne 5, 3) := by decide +kernel
theorem dH_produce_30 : decode prog_1_method_4_code 30 = .ok (.iconst (-1), 1) := by decide +kernel
theorem dH_produce_31 : decode prog_1_method_4_code 31 = .ok (.ireturn, 1) := by decide +kernel
theorem dH_produce_32 : decode prog_1_method_4_code 32 = .ok (.aload 6, 2) := by decide +kernel
theorem dH_produce_34 : decode prog_1_method_4_code 34 = .ok (.getfield 68, 3) := by decide +kernel
theorem dH_produce_37 : decode prog_1_method_4_code 37 = .ok (.ifCond .eq 6, 3) := by decide +kernel
theorem dH_produce_40 : decode prog_1_method_4_code 40 = .ok (.bipush (-2), 2) := by decide +kernel
theorem dH_produce_42 : decode prog_1_method_4_code 42 = .ok (.ireturn, 1) := by decide +kernel
theorem dH_produce_43 : decode prog_1_method_4_code 43 = .ok (.aload 6, 2) := by decide +kernel
theorem dH_produce_45 : decode prog_1_method_4_code 45 = .ok (.getfield 112, 3) := by decide +kernel
theorem dH_produce_48 : decode prog_1_method_4_code 48 = .ok (.iconst 1, 1) := by decide +kernel
theorem dH_produce_49 : decode prog_1_method_4_code 49 = .ok (.invokevirtual 98, 3) := by decide +kernel
theorem dH_produce_52 : decode prog_1_method_4_code 52 = .ok (.ifCond .ne 6, 3) := by decide +kernel
theorem dH_produce_55 : decode prog_1_method_4_code 55 = .ok (.bipush (-6), 2) := by decide +kernel
theorem dH_produce_57 : decode prog_1_method_4_code 57 = .ok (.ireturn, 1) := by decide +kernel
theorem dH_produce_58 : decode prog_1_method_4_code 58 = .ok (.aload 6, 2) := by decide +kernel
theorem dH_produce_60 : decode prog_1_method_4_code 60 = .ok (.iload_n 2, 1) := by decide +kernel
theorem dH_produce_61 : decode prog_1_method_4_code 61 = .ok (.iload_n 3, 1) := by decide +kernel
theorem dH_produce_62 : decode prog_1_method_4_code 62 = .ok (.iload 4, 2) := by decide +kernel
theorem dH_produce_64 : decode prog_1_method_4_code 64 = .ok (.iload 5, 2) := by decide +kernel
theorem dH_produce_66 : decode prog_1_method_4_code 66 = .ok (.invokevirtual 115, 3) := by decide +kernel
theorem dH_produce_69 : decode prog_1_method_4_code 69 = .ok (.ireturn, 1) := by decide +kernel
theorem dH_isContent_0 : decode prog_1_method_47_code 0 = .ok (.iload_n 0, 1) := by decide +kernel
theorem dH_isContent_1 : decode prog_1_method_47_code 1 = .ok (.tableswitch 86 0 2 #[27, 47, 72], 27) := by decide +kernel
theorem dH_isContent_28 : decode prog_1_method_47_code 28 = .ok (.iload_n 1, 1) := by decide +kernel
theorem dH_isContent_29 : decode prog_1_method_47_code 29 = .ok (.invokestatic 45, 3) := by decide +kernel
theorem dH_isContent_32 : decode prog_1_method_47_code 32 = .ok (.ifCond .eq 14, 3) := by decide +kernel
theorem dH_isContent_35 : decode prog_1_method_47_code 35 = .ok (.iload_n 2, 1) := by decide +kernel
theorem dH_isContent_36 : decode prog_1_method_47_code 36 = .ok (.invokestatic 45, 3) := by decide +kernel
theorem dH_isContent_39 : decode prog_1_method_47_code 39 = .ok (.ifCond .eq 7, 3) := by decide +kernel
theorem dH_isContent_42 : decode prog_1_method_47_code 42 = .ok (.iconst 1, 1) := by decide +kernel
theorem dH_isContent_43 : decode prog_1_method_47_code 43 = .ok (.goto 4, 3) := by decide +kernel
theorem dH_isContent_46 : decode prog_1_method_47_code 46 = .ok (.iconst 0, 1) := by decide +kernel
theorem dH_isContent_47 : decode prog_1_method_47_code 47 = .ok (.ireturn, 1) := by decide +kernel
theorem dH_isContent_48 : decode prog_1_method_47_code 48 = .ok (.iload_n 1, 1) := by decide +kernel
theorem dH_isContent_49 : decode prog_1_method_47_code 49 = .ok (.invokestatic 45, 3) := by decide +kernel
theorem dH_isContent_52 : decode prog_1_method_47_code 52 = .ok (.ifCond .eq 19, 3) := by decide +kernel
theorem dH_isContent_55 : decode prog_1_method_47_code 55 = .ok (.iload_n 2, 1) := by decide +kernel
theorem dH_isContent_56 : decode prog_1_method_47_code 56 = .ok (.invokestatic 45, 3) := by decide +kernel
theorem dH_isContent_59 : decode prog_1_method_47_code 59 = .ok (.ifCond .eq 12, 3) := by decide +kernel
theorem dH_isContent_62 : decode prog_1_method_47_code 62 = .ok (.iload_n 1, 1) := by decide +kernel
theorem dH_isContent_63 : decode prog_1_method_47_code 63 = .ok (.iload_n 2, 1) := by decide +kernel
theorem dH_isContent_64 : decode prog_1_method_47_code 64 = .ok (.if_icmp .eq 7, 3) := by decide +kernel
theorem dH_isContent_67 : decode prog_1_method_47_code 67 = .ok (.iconst 1, 1) := by decide +kernel
theorem dH_isContent_68 : decode prog_1_method_47_code 68 = .ok (.goto 4, 3) := by decide +kernel
theorem dH_isContent_71 : decode prog_1_method_47_code 71 = .ok (.iconst 0, 1) := by decide +kernel
theorem dH_isContent_72 : decode prog_1_method_47_code 72 = .ok (.ireturn, 1) := by decide +kernel
theorem dH_isContent_73 : decode prog_1_method_47_code 73 = .ok (.iload_n 1, 1) := by decide +kernel
theorem dH_isContent_74 : decode prog_1_method_47_code 74 = .ok (.ifCond .ne 11, 3) := by decide +kernel
theorem dH_isContent_77 : decode prog_1_method_47_code 77 = .ok (.iload_n 2, 1) := by decide +kernel
theorem dH_isContent_78 : decode prog_1_method_47_code 78 = .ok (.ifCond .ne 7, 3) := by decide +kernel
theorem dH_isContent_81 : decode prog_1_method_47_code 81 = .ok (.iconst 1, 1) := by decide +kernel
theorem dH_isContent_82 : decode prog_1_method_47_code 82 = .ok (.goto 4, 3) := by decide +kernel
theorem dH_isContent_85 : decode prog_1_method_47_code 85 = .ok (.iconst 0, 1) := by decide +kernel
theorem dH_isContent_86 : decode prog_1_method_47_code 86 = .ok (.ireturn, 1) := by decide +kernel
theorem dH_isContent_87 : decode prog_1_method_47_code 87 = .ok (.iconst 0, 1) := by decide +kernel
theorem dH_isContent_88 : decode prog_1_method_47_code 88 = .ok (.ireturn, 1) := by decide +kernel
theorem dH_isAmount_0 : decode prog_1_method_46_code 0 = .ok (.iload_n 0, 1) := by decide +kernel
theorem dH_isAmount_1 : decode prog_1_method_46_code 1 = .ok (.iconst 1, 1) := by decide +kernel
theorem dH_isAmount_2 : decode prog_1_method_46_code 2 = .ok (.if_icmp .lt 14, 3) := by decide +kernel
theorem dH_isAmount_5 : decode prog_1_method_46_code 5 = .ok (.iload_n 0, 1) := by decide +kernel
theorem dH_isAmount_6 : decode prog_1_method_46_code 6 = .ok (.sipush 1000, 3) := by decide +kernel
theorem dH_isAmount_9 : decode prog_1_method_46_code 9 = .ok (.if_icmp .gt 7, 3) := by decide +kernel
theorem dH_isAmount_12 : decode prog_1_method_46_code 12 = .ok (.iconst 1, 1) := by decide +kernel
theorem dH_isAmount_13 : decode prog_1_method_46_code 13 = .ok (.goto 4, 3) := by decide +kernel
theorem dH_isAmount_16 : decode prog_1_method_46_code 16 = .ok (.iconst 0, 1) := by decide +kernel
theorem dH_isAmount_17 : decode prog_1_method_46_code 17 = .ok (.ireturn, 1) := by decide +kernel
theorem dT_addOutput_0 : decode prog_6_method_3_code 0 = .ok (.aload_n 0, 1) := by decide +kernel
theorem dT_addOutput_1 : decode prog_6_method_3_code 1 = .ok (.getfield 34, 3) := by decide +kernel
theorem dT_addOutput_4 : decode prog_6_method_3_code 4 = .ok (.new 54, 3) := by decide +kernel
theorem dT_addOutput_7 : decode prog_6_method_3_code 7 = .ok (.dup, 1) := by decide +kernel
theorem dT_addOutput_8 : decode prog_6_method_3_code 8 = .ok (.aload_n 0, 1) := by decide +kernel
theorem dT_addOutput_9 : decode prog_6_method_3_code 9 = .ok (.getfield 9, 3) := by decide +kernel
theorem dT_addOutput_12 : decode prog_6_method_3_code 12 = .ok (.iconst 4, 1) := by decide +kernel
theorem dT_addOutput_13 : decode prog_6_method_3_code 13 = .ok (.imul, 1) := by decide +kernel
theorem dT_addOutput_14 : decode prog_6_method_3_code 14 = .ok (.aload_n 0, 1) := by decide +kernel
theorem dT_addOutput_15 : decode prog_6_method_3_code 15 = .ok (.getfield 34, 3) := by decide +kernel
theorem dT_addOutput_18 : decode prog_6_method_3_code 18 = .ok (.getfield 56, 3) := by decide +kernel
theorem dT_addOutput_21 : decode prog_6_method_3_code 21 = .ok (.iadd, 1) := by decide +kernel
theorem dT_addOutput_22 : decode prog_6_method_3_code 22 = .ok (.iload_n 1, 1) := by decide +kernel
theorem dT_addOutput_23 : decode prog_6_method_3_code 23 = .ok (.iload_n 2, 1) := by decide +kernel
theorem dT_addOutput_24 : decode prog_6_method_3_code 24 = .ok (.iload_n 3, 1) := by decide +kernel
theorem dT_addOutput_25 : decode prog_6_method_3_code 25 = .ok (.iload 4, 2) := by decide +kernel
theorem dT_addOutput_27 : decode prog_6_method_3_code 27 = .ok (.invokespecial 59, 3) := by decide +kernel
theorem dT_addOutput_30 : decode prog_6_method_3_code 30 = .ok (.invokevirtual 50, 3) := by decide +kernel
theorem dT_addOutput_33 : decode prog_6_method_3_code 33 = .ok (.ireturn, 1) := by decide +kernel
theorem dS_init_0 : decode prog_4_method_1_code 0 = .ok (.aload_n 0, 1) := by decide +kernel
theorem dS_init_1 : decode prog_4_method_1_code 1 = .ok (.invokespecial 3, 3) := by decide +kernel
theorem dS_init_4 : decode prog_4_method_1_code 4 = .ok (.aload_n 0, 1) := by decide +kernel
theorem dS_init_5 : decode prog_4_method_1_code 5 = .ok (.iload_n 1, 1) := by decide +kernel
theorem dS_init_6 : decode prog_4_method_1_code 6 = .ok (.putfield 9, 3) := by decide +kernel
theorem dS_init_9 : decode prog_4_method_1_code 9 = .ok (.aload_n 0, 1) := by decide +kernel
theorem dS_init_10 : decode prog_4_method_1_code 10 = .ok (.iload_n 2, 1) := by decide +kernel
theorem dS_init_11 : decode prog_4_method_1_code 11 = .ok (.putfield 15, 3) := by decide +kernel
theorem dS_init_14 : decode prog_4_method_1_code 14 = .ok (.aload_n 0, 1) := by decide +kernel
theorem dS_init_15 : decode prog_4_method_1_code 15 = .ok (.iload_n 3, 1) := by decide +kernel
theorem dS_init_16 : decode prog_4_method_1_code 16 = .ok (.putfield 18, 3) := by decide +kernel
theorem dS_init_19 : decode prog_4_method_1_code 19 = .ok (.aload_n 0, 1) := by decide +kernel
theorem dS_init_20 : decode prog_4_method_1_code 20 = .ok (.iload 4, 2) := by decide +kernel
theorem dS_init_22 : decode prog_4_method_1_code 22 = .ok (.putfield 21, 3) := by decide +kernel
theorem dS_init_25 : decode prog_4_method_1_code 25 = .ok (.aload_n 0, 1) := by decide +kernel
theorem dS_init_26 : decode prog_4_method_1_code 26 = .ok (.iload 5, 2) := by decide +kernel
theorem dS_init_28 : decode prog_4_method_1_code 28 = .ok (.putfield 24, 3) := by decide +kernel
theorem dS_init_31 : decode prog_4_method_1_code 31 = .ok (.aload_n 0, 1) := by decide +kernel
theorem dS_init_32 : decode prog_4_method_1_code 32 = .ok (.iconst (-1), 1) := by decide +kernel
theorem dS_init_33 : decode prog_4_method_1_code 33 = .ok (.putfield 27, 3) := by decide +kernel
theorem dS_init_36 : decode prog_4_method_1_code 36 = .ok (.return_, 1) := by decide +kernel
theorem dH_bind_0 : decode prog_1_method_5_code 0 = .ok (.aload_n 0, 1) := by decide +kernel
theorem dH_bind_1 : decode prog_1_method_5_code 1 = .ok (.iload_n 1, 1) := by decide +kernel
theorem dH_bind_2 : decode prog_1_method_5_code 2 = .ok (.invokevirtual 60, 3) := by decide +kernel
theorem dH_bind_5 : decode prog_1_method_5_code 5 = .ok (.astore 4, 2) := by decide +kernel
theorem dH_bind_7 : decode prog_1_method_5_code 7 = .ok (.aload_n 0, 1) := by decide +kernel
theorem dH_bind_8 : decode prog_1_method_5_code 8 = .ok (.iload_n 1, 1) := by decide +kernel
theorem dH_bind_9 : decode prog_1_method_5_code 9 = .ok (.iload_n 2, 1) := by decide +kernel
theorem dH_bind_10 : decode prog_1_method_5_code 10 = .ok (.invokevirtual 64, 3) := by decide +kernel
theorem dH_bind_13 : decode prog_1_method_5_code 13 = .ok (.astore 5, 2) := by decide +kernel
theorem dH_bind_15 : decode prog_1_method_5_code 15 = .ok (.aload 4, 2) := by decide +kernel
theorem dH_bind_17 : decode prog_1_method_5_code 17 = .ok (.ifnull 27, 3) := by decide +kernel
theorem dH_bind_20 : decode prog_1_method_5_code 20 = .ok (.aload 5, 2) := by decide +kernel
theorem dH_bind_22 : decode prog_1_method_5_code 22 = .ok (.ifnull 22, 3) := by decide +kernel
theorem dH_bind_25 : decode prog_1_method_5_code 25 = .ok (.iload_n 3, 1) := by decide +kernel
theorem dH_bind_26 : decode prog_1_method_5_code 26 = .ok (.iload_n 2, 1) := by decide +kernel
theorem dH_bind_27 : decode prog_1_method_5_code 27 = .ok (.if_icmp .eq 17, 3) := by decide +kernel
theorem dH_bind_30 : decode prog_1_method_5_code 30 = .ok (.iload_n 3, 1) := by decide +kernel
theorem dH_bind_31 : decode prog_1_method_5_code 31 = .ok (.iconst (-1), 1) := by decide +kernel
theorem dH_bind_32 : decode prog_1_method_5_code 32 = .ok (.if_icmp .eq 14, 3) := by decide +kernel
theorem dH_bind_35 : decode prog_1_method_5_code 35 = .ok (.aload_n 0, 1) := by decide +kernel
theorem dH_bind_36 : decode prog_1_method_5_code 36 = .ok (.iload_n 1, 1) := by decide +kernel
theorem dH_bind_37 : decode prog_1_method_5_code 37 = .ok (.iload_n 3, 1) := by decide +kernel
theorem dH_bind_38 : decode prog_1_method_5_code 38 = .ok (.invokevirtual 64, 3) := by decide +kernel
theorem dH_bind_41 : decode prog_1_method_5_code 41 = .ok (.ifnonnull 5, 3) := by decide +kernel
theorem dH_bind_44 : decode prog_1_method_5_code 44 = .ok (.iconst (-1), 1) := by decide +kernel
theorem dH_bind_45 : decode prog_1_method_5_code 45 = .ok (.ireturn, 1) := by decide +kernel
theorem dH_bind_46 : decode prog_1_method_5_code 46 = .ok (.aload 4, 2) := by decide +kernel
theorem dH_bind_48 : decode prog_1_method_5_code 48 = .ok (.getfield 68, 3) := by decide +kernel
theorem dH_bind_51 : decode prog_1_method_5_code 51 = .ok (.ifCond .eq 6, 3) := by decide +kernel
theorem dH_bind_54 : decode prog_1_method_5_code 54 = .ok (.bipush (-2), 2) := by decide +kernel
theorem dH_bind_56 : decode prog_1_method_5_code 56 = .ok (.ireturn, 1) := by decide +kernel
theorem dH_bind_57 : decode prog_1_method_5_code 57 = .ok (.aload 5, 2) := by decide +kernel
theorem dH_bind_59 : decode prog_1_method_5_code 59 = .ok (.iload_n 3, 1) := by decide +kernel
theorem dH_bind_60 : decode prog_1_method_5_code 60 = .ok (.putfield 119, 3) := by decide +kernel
theorem dH_bind_63 : decode prog_1_method_5_code 63 = .ok (.iconst 0, 1) := by decide +kernel
theorem dH_bind_64 : decode prog_1_method_5_code 64 = .ok (.ireturn, 1) := by decide +kernel
theorem dH_pay_0 : decode prog_1_method_6_code 0 = .ok (.aload_n 0, 1) := by decide +kernel
theorem dH_pay_1 : decode prog_1_method_6_code 1 = .ok (.iload_n 1, 1) := by decide +kernel
theorem dH_pay_2 : decode prog_1_method_6_code 2 = .ok (.invokevirtual 60, 3) := by decide +kernel
theorem dH_pay_5 : decode prog_1_method_6_code 5 = .ok (.astore 5, 2) := by decide +kernel
theorem dH_pay_7 : decode prog_1_method_6_code 7 = .ok (.aload 5, 2) := by decide +kernel
theorem dH_pay_9 : decode prog_1_method_6_code 9 = .ok (.ifnull 25, 3) := by decide +kernel
theorem dH_pay_12 : decode prog_1_method_6_code 12 = .ok (.iload_n 2, 1) := by decide +kernel
theorem dH_pay_13 : decode prog_1_method_6_code 13 = .ok (.invokestatic 45, 3) := by decide +kernel
theorem dH_pay_16 : decode prog_1_method_6_code 16 = .ok (.ifCond .eq 18, 3) := by decide +kernel
theorem dH_pay_19 : decode prog_1_method_6_code 19 = .ok (.iload_n 3, 1) := by decide +kernel
theorem dH_pay_20 : decode prog_1_method_6_code 20 = .ok (.invokestatic 45, 3) := by decide +kernel
theorem dH_pay_23 : decode prog_1_method_6_code 23 = .ok (.ifCond .eq 11, 3) := by decide +kernel
theorem dH_pay_26 : decode prog_1_method_6_code 26 = .ok (.iload 4, 2) := by decide +kernel
theorem dH_pay_28 : decode prog_1_method_6_code 28 = .ok (.invokestatic 109, 3) := by decide +kernel
theorem dH_pay_31 : decode prog_1_method_6_code 31 = .ok (.ifCond .ne 5, 3) := by decide +kernel
theorem dH_pay_34 : decode prog_1_method_6_code 34 = .ok (.iconst (-1), 1) := by decide +kernel
theorem dH_pay_35 : decode prog_1_method_6_code 35 = .ok (.ireturn, 1) := by decide +kernel
theorem dH_pay_36 : decode prog_1_method_6_code 36 = .ok (.aload 5, 2) := by decide +kernel
theorem dH_pay_38 : decode prog_1_method_6_code 38 = .ok (.getfield 68, 3) := by decide +kernel
theorem dH_pay_41 : decode prog_1_method_6_code 41 = .ok (.ifCond .eq 6, 3) := by decide +kernel
theorem dH_pay_44 : decode prog_1_method_6_code 44 = .ok (.bipush (-2), 2) := by decide +kernel
theorem dH_pay_46 : decode prog_1_method_6_code 46 = .ok (.ireturn, 1) := by decide +kernel
theorem dH_pay_47 : decode prog_1_method_6_code 47 = .ok (.iconst 0, 1) := by decide +kernel
theorem dH_pay_48 : decode prog_1_method_6_code 48 = .ok (.istore 6, 2) := by decide +kernel
theorem dH_pay_50 : decode prog_1_method_6_code 50 = .ok (.iconst 0, 1) := by decide +kernel
theorem dH_pay_51 : decode prog_1_method_6_code 51 = .ok (.istore 7, 2) := by decide +kernel
theorem dH_pay_53 : decode prog_1_method_6_code 53 = .ok (.iconst 0, 1) := by decide +kernel
theorem dH_pay_54 : decode prog_1_method_6_code 54 = .ok (.istore 8, 2) := by decide +kernel
theorem dH_pay_56 : decode prog_1_method_6_code 56 = .ok (.iload 8, 2) := by decide +kernel
theorem dH_pay_58 : decode prog_1_method_6_code 58 = .ok (.aload_n 0, 1) := by decide +kernel
theorem dH_pay_59 : decode prog_1_method_6_code 59 = .ok (.invokevirtual 122, 3) := by decide +kernel
theorem dH_pay_62 : decode prog_1_method_6_code 62 = .ok (.if_icmp .ge 63, 3) := by decide +kernel
theorem dH_pay_65 : decode prog_1_method_6_code 65 = .ok (.iload 7, 2) := by decide +kernel
theorem dH_pay_67 : decode prog_1_method_6_code 67 = .ok (.iload 4, 2) := by decide +kernel
theorem dH_pay_69 : decode prog_1_method_6_code 69 = .ok (.if_icmp .ge 56, 3) := by decide +kernel
theorem dH_pay_72 : decode prog_1_method_6_code 72 = .ok (.aload_n 0, 1) := by decide +kernel
theorem dH_pay_73 : decode prog_1_method_6_code 73 = .ok (.iload 8, 2) := by decide +kernel
theorem dH_pay_75 : decode prog_1_method_6_code 75 = .ok (.invokevirtual 126, 3) := by decide +kernel
theorem dH_pay_78 : decode prog_1_method_6_code 78 = .ok (.astore 9, 2) := by decide +kernel
theorem dH_pay_80 : decode prog_1_method_6_code 80 = .ok (.aload 9, 2) := by decide +kernel
theorem dH_pay_82 : decode prog_1_method_6_code 82 = .ok (.ifnull 37, 3) := by decide +kernel
theorem dH_pay_85 : decode prog_1_method_6_code 85 = .ok (.aload_n 0, 1) := by decide +kernel
theorem dH_pay_86 : decode prog_1_method_6_code 86 = .ok (.aload 9, 2) := by decide +kernel
theorem dH_pay_88 : decode prog_1_method_6_code 88 = .ok (.iload_n 2, 1) := by decide +kernel
theorem dH_pay_89 : decode prog_1_method_6_code 89 = .ok (.aload 5, 2) := by decide +kernel
theorem dH_pay_91 : decode prog_1_method_6_code 91 = .ok (.invokevirtual 130, 3) := by decide +kernel
theorem dH_pay_94 : decode prog_1_method_6_code 94 = .ok (.ifCond .eq 25, 3) := by decide +kernel
theorem dH_pay_97 : decode prog_1_method_6_code 97 = .ok (.aload_n 0, 1) := by decide +kernel
theorem dH_pay_98 : decode prog_1_method_6_code 98 = .ok (.getfield 39, 3) := by decide +kernel
theorem dH_pay_101 : decode prog_1_method_6_code 101 = .ok (.iload 6, 2) := by decide +kernel
theorem dH_pay_103 : decode prog_1_method_6_code 103 = .ok (.iload 8, 2) := by decide +kernel
theorem dH_pay_105 : decode prog_1_method_6_code 105 = .ok (.iastore, 1) := by decide +kernel
theorem dH_pay_106 : decode prog_1_method_6_code 106 = .ok (.iinc 6 1, 3) := by decide +kernel
theorem dH_pay_109 : decode prog_1_method_6_code 109 = .ok (.iload 7, 2) := by decide +kernel
theorem dH_pay_111 : decode prog_1_method_6_code 111 = .ok (.aload 9, 2) := by decide +kernel
theorem dH_pay_113 : decode prog_1_method_6_code 113 = .ok (.getfield 134, 3) := by decide +kernel
theorem dH_pay_116 : decode prog_1_method_6_code 116 = .ok (.iadd, 1) := by decide +kernel
theorem dH_pay_117 : decode prog_1_method_6_code 117 = .ok (.istore 7, 2) := by decide +kernel
theorem dH_pay_119 : decode prog_1_method_6_code 119 = .ok (.iinc 8 1, 3) := by decide +kernel
theorem dH_pay_122 : decode prog_1_method_6_code 122 = .ok (.goto (-66), 3) := by decide +kernel
theorem dH_pay_125 : decode prog_1_method_6_code 125 = .ok (.iload 7, 2) := by decide +kernel
theorem dH_pay_127 : decode prog_1_method_6_code 127 = .ok (.iload 4, 2) := by decide +kernel
theorem dH_pay_129 : decode prog_1_method_6_code 129 = .ok (.if_icmp .ge 6, 3) := by decide +kernel
theorem dH_pay_132 : decode prog_1_method_6_code 132 = .ok (.bipush (-7), 2) := by decide +kernel
theorem dH_pay_134 : decode prog_1_method_6_code 134 = .ok (.ireturn, 1) := by decide +kernel
theorem dH_pay_135 : decode prog_1_method_6_code 135 = .ok (.aload 5, 2) := by decide +kernel
theorem dH_pay_137 : decode prog_1_method_6_code 137 = .ok (.getfield 84, 3) := by decide +kernel
theorem dH_pay_140 : decode prog_1_method_6_code 140 = .ok (.iload 6, 2) := by decide +kernel
theorem dH_pay_142 : decode prog_1_method_6_code 142 = .ok (.invokevirtual 98, 3) := by decide +kernel
theorem dH_pay_145 : decode prog_1_method_6_code 145 = .ok (.ifCond .eq 26, 3) := by decide +kernel
theorem dH_pay_148 : decode prog_1_method_6_code 148 = .ok (.aload 5, 2) := by decide +kernel
theorem dH_pay_150 : decode prog_1_method_6_code 150 = .ok (.getfield 112, 3) := by decide +kernel
theorem dH_pay_153 : decode prog_1_method_6_code 153 = .ok (.iload 7, 2) := by decide +kernel
theorem dH_pay_155 : decode prog_1_method_6_code 155 = .ok (.iload 4, 2) := by decide +kernel
theorem dH_pay_157 : decode prog_1_method_6_code 157 = .ok (.if_icmp .le 7, 3) := by decide +kernel
theorem dH_pay_160 : decode prog_1_method_6_code 160 = .ok (.iconst 2, 1) := by decide +kernel
theorem dH_pay_161 : decode prog_1_method_6_code 161 = .ok (.goto 4, 3) := by decide +kernel
theorem dH_pay_164 : decode prog_1_method_6_code 164 = .ok (.iconst 1, 1) := by decide +kernel
theorem dH_pay_165 : decode prog_1_method_6_code 165 = .ok (.invokevirtual 98, 3) := by decide +kernel
theorem dH_pay_168 : decode prog_1_method_6_code 168 = .ok (.ifCond .ne 6, 3) := by decide +kernel
theorem dH_pay_171 : decode prog_1_method_6_code 171 = .ok (.bipush (-6), 2) := by decide +kernel
theorem dH_pay_173 : decode prog_1_method_6_code 173 = .ok (.ireturn, 1) := by decide +kernel
theorem dH_pay_174 : decode prog_1_method_6_code 174 = .ok (.aload_n 0, 1) := by decide +kernel
theorem dH_pay_175 : decode prog_1_method_6_code 175 = .ok (.aload 5, 2) := by decide +kernel
theorem dH_pay_177 : decode prog_1_method_6_code 177 = .ok (.iload 6, 2) := by decide +kernel
theorem dH_pay_179 : decode prog_1_method_6_code 179 = .ok (.invokevirtual 137, 3) := by decide +kernel
theorem dH_pay_182 : decode prog_1_method_6_code 182 = .ok (.aload 5, 2) := by decide +kernel
theorem dH_pay_184 : decode prog_1_method_6_code 184 = .ok (.iconst 0, 1) := by decide +kernel
theorem dH_pay_185 : decode prog_1_method_6_code 185 = .ok (.iload_n 2, 1) := by decide +kernel
theorem dH_pay_186 : decode prog_1_method_6_code 186 = .ok (.iload_n 3, 1) := by decide +kernel
theorem dH_pay_187 : decode prog_1_method_6_code 187 = .ok (.iload 4, 2) := by decide +kernel
theorem dH_pay_189 : decode prog_1_method_6_code 189 = .ok (.invokevirtual 115, 3) := by decide +kernel
theorem dH_pay_192 : decode prog_1_method_6_code 192 = .ok (.pop, 1) := by decide +kernel
theorem dH_pay_193 : decode prog_1_method_6_code 193 = .ok (.iload 7, 2) := by decide +kernel
theorem dH_pay_195 : decode prog_1_method_6_code 195 = .ok (.iload 4, 2) := by decide +kernel
theorem dH_pay_197 : decode prog_1_method_6_code 197 = .ok (.if_icmp .le 21, 3) := by decide +kernel
theorem dH_pay_200 : decode prog_1_method_6_code 200 = .ok (.aload 5, 2) := by decide +kernel
theorem dH_pay_202 : decode prog_1_method_6_code 202 = .ok (.iconst 0, 1) := by decide +kernel
theorem dH_pay_203 : decode prog_1_method_6_code 203 = .ok (.iload_n 2, 1) := by decide +kernel
theorem dH_pay_204 : decode prog_1_method_6_code 204 = .ok (.aload 5, 2) := by decide +kernel
theorem dH_pay_206 : decode prog_1_method_6_code 206 = .ok (.getfield 71, 3) := by decide +kernel
theorem dH_pay_209 : decode prog_1_method_6_code 209 = .ok (.iload 7, 2) := by decide +kernel
theorem dH_pay_211 : decode prog_1_method_6_code 211 = .ok (.iload 4, 2) := by decide +kernel
theorem dH_pay_213 : decode prog_1_method_6_code 213 = .ok (.isub, 1) := by decide +kernel
theorem dH_pay_214 : decode prog_1_method_6_code 214 = .ok (.invokevirtual 115, 3) := by decide +kernel
theorem dH_pay_217 : decode prog_1_method_6_code 217 = .ok (.pop, 1) := by decide +kernel
theorem dH_pay_218 : decode prog_1_method_6_code 218 = .ok (.iload 6, 2) := by decide +kernel
theorem dH_pay_220 : decode prog_1_method_6_code 220 = .ok (.ireturn, 1) := by decide +kernel
theorem dH_stateNumbersEnd_0 : decode prog_1_method_43_code 0 = .ok (.aload_n 0, 1) := by decide +kernel
theorem dH_stateNumbersEnd_1 : decode prog_1_method_43_code 1 = .ok (.getfield 53, 3) := by decide +kernel
theorem dH_stateNumbersEnd_4 : decode prog_1_method_43_code 4 = .ok (.iconst 4, 1) := by decide +kernel
theorem dH_stateNumbersEnd_5 : decode prog_1_method_43_code 5 = .ok (.imul, 1) := by decide +kernel
theorem dH_stateNumbersEnd_6 : decode prog_1_method_43_code 6 = .ok (.ireturn, 1) := by decide +kernel
theorem dH_stateNumbered_0 : decode prog_1_method_42_code 0 = .ok (.aload_n 0, 1) := by decide +kernel
theorem dH_stateNumbered_1 : decode prog_1_method_42_code 1 = .ok (.iload_n 1, 1) := by decide +kernel
theorem dH_stateNumbered_2 : decode prog_1_method_42_code 2 = .ok (.iconst 4, 1) := by decide +kernel
theorem dH_stateNumbered_3 : decode prog_1_method_42_code 3 = .ok (.idiv, 1) := by decide +kernel
theorem dH_stateNumbered_4 : decode prog_1_method_42_code 4 = .ok (.iload_n 1, 1) := by decide +kernel
theorem dH_stateNumbered_5 : decode prog_1_method_42_code 5 = .ok (.iconst 4, 1) := by decide +kernel
theorem dH_stateNumbered_6 : decode prog_1_method_42_code 6 = .ok (.irem, 1) := by decide +kernel
theorem dH_stateNumbered_7 : decode prog_1_method_42_code 7 = .ok (.invokevirtual 64, 3) := by decide +kernel
theorem dH_stateNumbered_10 : decode prog_1_method_42_code 10 = .ok (.areturn, 1) := by decide +kernel
theorem dH_isCoin_0 : decode prog_1_method_38_code 0 = .ok (.aload_n 1, 1) := by decide +kernel
theorem dH_isCoin_1 : decode prog_1_method_38_code 1 = .ok (.iload_n 2, 1) := by decide +kernel
theorem dH_isCoin_2 : decode prog_1_method_38_code 2 = .ok (.invokevirtual 206, 3) := by decide +kernel
theorem dH_isCoin_5 : decode prog_1_method_38_code 5 = .ok (.ifCond .eq 57, 3) := by decide +kernel
theorem dH_isCoin_8 : decode prog_1_method_38_code 8 = .ok (.aload_n 1, 1) := by decide +kernel
theorem dH_isCoin_9 : decode prog_1_method_38_code 9 = .ok (.invokevirtual 323, 3) := by decide +kernel
theorem dH_isCoin_12 : decode prog_1_method_38_code 12 = .ok (.ifCond .ne 50, 3) := by decide +kernel
theorem dH_isCoin_15 : decode prog_1_method_38_code 15 = .ok (.aload_n 0, 1) := by decide +kernel
theorem dH_isCoin_16 : decode prog_1_method_38_code 16 = .ok (.getfield 11, 3) := by decide +kernel
theorem dH_isCoin_19 : decode prog_1_method_38_code 19 = .ok (.aload_n 1, 1) := by decide +kernel
theorem dH_isCoin_20 : decode prog_1_method_38_code 20 = .ok (.invokevirtual 311, 3) := by decide +kernel
theorem dH_isCoin_23 : decode prog_1_method_38_code 23 = .ok (.aaload, 1) := by decide +kernel
theorem dH_isCoin_24 : decode prog_1_method_38_code 24 = .ok (.getfield 81, 3) := by decide +kernel
theorem dH_isCoin_27 : decode prog_1_method_38_code 27 = .ok (.aload_n 3, 1) := by decide +kernel
theorem dH_isCoin_28 : decode prog_1_method_38_code 28 = .ok (.getfield 81, 3) := by decide +kernel
theorem dH_isCoin_31 : decode prog_1_method_38_code 31 = .ok (.if_icmp .ne 31, 3) := by decide +kernel
theorem dH_isCoin_34 : decode prog_1_method_38_code 34 = .ok (.aload_n 0, 1) := by decide +kernel
theorem dH_isCoin_35 : decode prog_1_method_38_code 35 = .ok (.aload_n 1, 1) := by decide +kernel
theorem dH_isCoin_36 : decode prog_1_method_38_code 36 = .ok (.aload_n 3, 1) := by decide +kernel
theorem dH_isCoin_37 : decode prog_1_method_38_code 37 = .ok (.getfield 71, 3) := by decide +kernel
theorem dH_isCoin_40 : decode prog_1_method_38_code 40 = .ok (.invokevirtual 202, 3) := by decide +kernel
theorem dH_isCoin_43 : decode prog_1_method_38_code 43 = .ok (.ifCond .eq 19, 3) := by decide +kernel
theorem dH_isCoin_46 : decode prog_1_method_38_code 46 = .ok (.aload_n 0, 1) := by decide +kernel
theorem dH_isCoin_47 : decode prog_1_method_38_code 47 = .ok (.aload_n 1, 1) := by decide +kernel
theorem dH_isCoin_48 : decode prog_1_method_38_code 48 = .ok (.aload_n 3, 1) := by decide +kernel
theorem dH_isCoin_49 : decode prog_1_method_38_code 49 = .ok (.getfield 71, 3) := by decide +kernel
theorem dH_isCoin_52 : decode prog_1_method_38_code 52 = .ok (.invokevirtual 326, 3) := by decide +kernel
theorem dH_isCoin_55 : decode prog_1_method_38_code 55 = .ok (.ifCond .ne 7, 3) := by decide +kernel
theorem dH_isCoin_58 : decode prog_1_method_38_code 58 = .ok (.iconst 1, 1) := by decide +kernel
theorem dH_isCoin_59 : decode prog_1_method_38_code 59 = .ok (.goto 4, 3) := by decide +kernel
theorem dH_isCoin_62 : decode prog_1_method_38_code 62 = .ok (.iconst 0, 1) := by decide +kernel
theorem dH_isCoin_63 : decode prog_1_method_38_code 63 = .ok (.ireturn, 1) := by decide +kernel
theorem dS_isCashIssuedBy_0 : decode prog_4_method_5_code 0 = .ok (.aload_n 0, 1) := by decide +kernel
theorem dS_isCashIssuedBy_1 : decode prog_4_method_5_code 1 = .ok (.getfield 15, 3) := by decide +kernel
theorem dS_isCashIssuedBy_4 : decode prog_4_method_5_code 4 = .ok (.ifCond .ne 15, 3) := by decide +kernel
theorem dS_isCashIssuedBy_7 : decode prog_4_method_5_code 7 = .ok (.aload_n 0, 1) := by decide +kernel
theorem dS_isCashIssuedBy_8 : decode prog_4_method_5_code 8 = .ok (.getfield 18, 3) := by decide +kernel
theorem dS_isCashIssuedBy_11 : decode prog_4_method_5_code 11 = .ok (.iload_n 1, 1) := by decide +kernel
theorem dS_isCashIssuedBy_12 : decode prog_4_method_5_code 12 = .ok (.if_icmp .ne 7, 3) := by decide +kernel
theorem dS_isCashIssuedBy_15 : decode prog_4_method_5_code 15 = .ok (.iconst 1, 1) := by decide +kernel
theorem dS_isCashIssuedBy_16 : decode prog_4_method_5_code 16 = .ok (.goto 4, 3) := by decide +kernel
theorem dS_isCashIssuedBy_19 : decode prog_4_method_5_code 19 = .ok (.iconst 0, 1) := by decide +kernel
theorem dS_isCashIssuedBy_20 : decode prog_4_method_5_code 20 = .ok (.ireturn, 1) := by decide +kernel
theorem dS_isBound_0 : decode prog_4_method_3_code 0 = .ok (.aload_n 0, 1) := by decide +kernel
theorem dS_isBound_1 : decode prog_4_method_3_code 1 = .ok (.getfield 27, 3) := by decide +kernel
theorem dS_isBound_4 : decode prog_4_method_3_code 4 = .ok (.iconst (-1), 1) := by decide +kernel
theorem dS_isBound_5 : decode prog_4_method_3_code 5 = .ok (.if_icmp .eq 7, 3) := by decide +kernel
theorem dS_isBound_8 : decode prog_4_method_3_code 8 = .ok (.iconst 1, 1) := by decide +kernel
theorem dS_isBound_9 : decode prog_4_method_3_code 9 = .ok (.goto 4, 3) := by decide +kernel
theorem dS_isBound_12 : decode prog_4_method_3_code 12 = .ok (.iconst 0, 1) := by decide +kernel
theorem dS_isBound_13 : decode prog_4_method_3_code 13 = .ok (.ireturn, 1) := by decide +kernel
theorem dS_source_0 : decode prog_4_method_2_code 0 = .ok (.aload_n 0, 1) := by decide +kernel
theorem dS_source_1 : decode prog_4_method_2_code 1 = .ok (.getfield 9, 3) := by decide +kernel
theorem dS_source_4 : decode prog_4_method_2_code 4 = .ok (.iconst 4, 1) := by decide +kernel
theorem dS_source_5 : decode prog_4_method_2_code 5 = .ok (.idiv, 1) := by decide +kernel
theorem dS_source_6 : decode prog_4_method_2_code 6 = .ok (.ireturn, 1) := by decide +kernel
theorem dH_isInVault_0 : decode prog_1_method_35_code 0 = .ok (.aload_n 0, 1) := by decide +kernel
theorem dH_isInVault_1 : decode prog_1_method_35_code 1 = .ok (.getfield 17, 3) := by decide +kernel
theorem dH_isInVault_4 : decode prog_1_method_35_code 4 = .ok (.iload_n 2, 1) := by decide +kernel
theorem dH_isInVault_5 : decode prog_1_method_35_code 5 = .ok (.aaload, 1) := by decide +kernel
theorem dH_isInVault_6 : decode prog_1_method_35_code 6 = .ok (.getfield 199, 3) := by decide +kernel
theorem dH_isInVault_9 : decode prog_1_method_35_code 9 = .ok (.aload_n 1, 1) := by decide +kernel
theorem dH_isInVault_10 : decode prog_1_method_35_code 10 = .ok (.invokevirtual 311, 3) := by decide +kernel
theorem dH_isInVault_13 : decode prog_1_method_35_code 13 = .ok (.invokestatic 77, 3) := by decide +kernel
theorem dH_isInVault_16 : decode prog_1_method_35_code 16 = .ok (.ifCond .eq 24, 3) := by decide +kernel
theorem dH_isInVault_19 : decode prog_1_method_35_code 19 = .ok (.aload_n 1, 1) := by decide +kernel
theorem dH_isInVault_20 : decode prog_1_method_35_code 20 = .ok (.iload_n 2, 1) := by decide +kernel
theorem dH_isInVault_21 : decode prog_1_method_35_code 21 = .ok (.invokevirtual 314, 3) := by decide +kernel
theorem dH_isInVault_24 : decode prog_1_method_35_code 24 = .ok (.ifCond .eq 16, 3) := by decide +kernel
theorem dH_isInVault_27 : decode prog_1_method_35_code 27 = .ok (.aload_n 0, 1) := by decide +kernel
theorem dH_isInVault_28 : decode prog_1_method_35_code 28 = .ok (.aload_n 1, 1) := by decide +kernel
theorem dH_isInVault_29 : decode prog_1_method_35_code 29 = .ok (.iload_n 2, 1) := by decide +kernel
theorem dH_isInVault_30 : decode prog_1_method_35_code 30 = .ok (.invokevirtual 317, 3) := by decide +kernel
theorem dH_isInVault_33 : decode prog_1_method_35_code 33 = .ok (.ifCond .ne 7, 3) := by decide +kernel
theorem dH_isInVault_36 : decode prog_1_method_35_code 36 = .ok (.iconst 1, 1) := by decide +kernel
theorem dH_isInVault_37 : decode prog_1_method_35_code 37 = .ok (.goto 4, 3) := by decide +kernel
theorem dH_isInVault_40 : decode prog_1_method_35_code 40 = .ok (.iconst 0, 1) := by decide +kernel
theorem dH_isInVault_41 : decode prog_1_method_35_code 41 = .ok (.ireturn, 1) := by decide +kernel
theorem dS_concerns_0 : decode prog_4_method_8_code 0 = .ok (.aload_n 0, 1) := by decide +kernel
theorem dS_concerns_1 : decode prog_4_method_8_code 1 = .ok (.iload_n 1, 1) := by decide +kernel
theorem dS_concerns_2 : decode prog_4_method_8_code 2 = .ok (.invokevirtual 34, 3) := by decide +kernel
theorem dS_concerns_5 : decode prog_4_method_8_code 5 = .ok (.ifCond .ne 27, 3) := by decide +kernel
theorem dS_concerns_8 : decode prog_4_method_8_code 8 = .ok (.aload_n 0, 1) := by decide +kernel
theorem dS_concerns_9 : decode prog_4_method_8_code 9 = .ok (.getfield 15, 3) := by decide +kernel
theorem dS_concerns_12 : decode prog_4_method_8_code 12 = .ok (.iconst 1, 1) := by decide +kernel
theorem dS_concerns_13 : decode prog_4_method_8_code 13 = .ok (.if_icmp .ne 23, 3) := by decide +kernel
theorem dS_concerns_16 : decode prog_4_method_8_code 16 = .ok (.aload_n 0, 1) := by decide +kernel
theorem dS_concerns_17 : decode prog_4_method_8_code 17 = .ok (.getfield 18, 3) := by decide +kernel
theorem dS_concerns_20 : decode prog_4_method_8_code 20 = .ok (.iload_n 1, 1) := by decide +kernel
theorem dS_concerns_21 : decode prog_4_method_8_code 21 = .ok (.if_icmp .eq 11, 3) := by decide +kernel
theorem dS_concerns_24 : decode prog_4_method_8_code 24 = .ok (.aload_n 0, 1) := by decide +kernel
theorem dS_concerns_25 : decode prog_4_method_8_code 25 = .ok (.getfield 21, 3) := by decide +kernel
theorem dS_concerns_28 : decode prog_4_method_8_code 28 = .ok (.iload_n 1, 1) := by decide +kernel
theorem dS_concerns_29 : decode prog_4_method_8_code 29 = .ok (.if_icmp .ne 7, 3) := by decide +kernel
theorem dS_concerns_32 : decode prog_4_method_8_code 32 = .ok (.iconst 1, 1) := by decide +kernel
theorem dS_concerns_33 : decode prog_4_method_8_code 33 = .ok (.goto 4, 3) := by decide +kernel
theorem dS_concerns_36 : decode prog_4_method_8_code 36 = .ok (.iconst 0, 1) := by decide +kernel
theorem dS_concerns_37 : decode prog_4_method_8_code 37 = .ok (.ireturn, 1) := by decide +kernel
theorem dS_isCashOwnedBy_0 : decode prog_4_method_6_code 0 = .ok (.aload_n 0, 1) := by decide +kernel
theorem dS_isCashOwnedBy_1 : decode prog_4_method_6_code 1 = .ok (.getfield 15, 3) := by decide +kernel
theorem dS_isCashOwnedBy_4 : decode prog_4_method_6_code 4 = .ok (.ifCond .ne 15, 3) := by decide +kernel
theorem dS_isCashOwnedBy_7 : decode prog_4_method_6_code 7 = .ok (.aload_n 0, 1) := by decide +kernel
theorem dS_isCashOwnedBy_8 : decode prog_4_method_6_code 8 = .ok (.getfield 21, 3) := by decide +kernel
theorem dS_isCashOwnedBy_11 : decode prog_4_method_6_code 11 = .ok (.iload_n 1, 1) := by decide +kernel
theorem dS_isCashOwnedBy_12 : decode prog_4_method_6_code 12 = .ok (.if_icmp .ne 7, 3) := by decide +kernel
theorem dS_isCashOwnedBy_15 : decode prog_4_method_6_code 15 = .ok (.iconst 1, 1) := by decide +kernel
theorem dS_isCashOwnedBy_16 : decode prog_4_method_6_code 16 = .ok (.goto 4, 3) := by decide +kernel
theorem dS_isCashOwnedBy_19 : decode prog_4_method_6_code 19 = .ok (.iconst 0, 1) := by decide +kernel
theorem dS_isCashOwnedBy_20 : decode prog_4_method_6_code 20 = .ok (.ireturn, 1) := by decide +kernel
theorem dH_isKnownInput_0 : decode prog_1_method_36_code 0 = .ok (.iconst 0, 1) := by decide +kernel
theorem dH_isKnownInput_1 : decode prog_1_method_36_code 1 = .ok (.istore_n 3, 1) := by decide +kernel
theorem dH_isKnownInput_2 : decode prog_1_method_36_code 2 = .ok (.iload_n 3, 1) := by decide +kernel
theorem dH_isKnownInput_3 : decode prog_1_method_36_code 3 = .ok (.aload_n 0, 1) := by decide +kernel
theorem dH_isKnownInput_4 : decode prog_1_method_36_code 4 = .ok (.getfield 53, 3) := by decide +kernel
theorem dH_isKnownInput_7 : decode prog_1_method_36_code 7 = .ok (.if_icmp .ge 46, 3) := by decide +kernel
theorem dH_isKnownInput_10 : decode prog_1_method_36_code 10 = .ok (.aload_n 0, 1) := by decide +kernel
theorem dH_isKnownInput_11 : decode prog_1_method_36_code 11 = .ok (.getfield 17, 3) := by decide +kernel
theorem dH_isKnownInput_14 : decode prog_1_method_36_code 14 = .ok (.iload_n 2, 1) := by decide +kernel
theorem dH_isKnownInput_15 : decode prog_1_method_36_code 15 = .ok (.aaload, 1) := by decide +kernel
theorem dH_isKnownInput_16 : decode prog_1_method_36_code 16 = .ok (.getfield 74, 3) := by decide +kernel
theorem dH_isKnownInput_19 : decode prog_1_method_36_code 19 = .ok (.iload_n 3, 1) := by decide +kernel
theorem dH_isKnownInput_20 : decode prog_1_method_36_code 20 = .ok (.invokestatic 77, 3) := by decide +kernel
theorem dH_isKnownInput_23 : decode prog_1_method_36_code 23 = .ok (.ifCond .eq 24, 3) := by decide +kernel
theorem dH_isKnownInput_26 : decode prog_1_method_36_code 26 = .ok (.aload_n 0, 1) := by decide +kernel
theorem dH_isKnownInput_27 : decode prog_1_method_36_code 27 = .ok (.getfield 11, 3) := by decide +kernel
theorem dH_isKnownInput_30 : decode prog_1_method_36_code 30 = .ok (.iload_n 3, 1) := by decide +kernel
theorem dH_isKnownInput_31 : decode prog_1_method_36_code 31 = .ok (.aaload, 1) := by decide +kernel
theorem dH_isKnownInput_32 : decode prog_1_method_36_code 32 = .ok (.getfield 84, 3) := by decide +kernel
theorem dH_isKnownInput_35 : decode prog_1_method_36_code 35 = .ok (.aload_n 1, 1) := by decide +kernel
theorem dH_isKnownInput_36 : decode prog_1_method_36_code 36 = .ok (.getfield 88, 3) := by decide +kernel
theorem dH_isKnownInput_39 : decode prog_1_method_36_code 39 = .ok (.invokevirtual 93, 3) := by decide +kernel
theorem dH_isKnownInput_42 : decode prog_1_method_36_code 42 = .ok (.ifCond .eq 5, 3) := by decide +kernel
theorem dH_isKnownInput_45 : decode prog_1_method_36_code 45 = .ok (.iconst 1, 1) := by decide +kernel
theorem dH_isKnownInput_46 : decode prog_1_method_36_code 46 = .ok (.ireturn, 1) := by decide +kernel
theorem dH_isKnownInput_47 : decode prog_1_method_36_code 47 = .ok (.iinc 3 1, 3) := by decide +kernel
theorem dH_isKnownInput_50 : decode prog_1_method_36_code 50 = .ok (.goto (-48), 3) := by decide +kernel
theorem dH_isKnownInput_53 : decode prog_1_method_36_code 53 = .ok (.iconst 0, 1) := by decide +kernel
theorem dH_isKnownInput_54 : decode prog_1_method_36_code 54 = .ok (.ireturn, 1) := by decide +kernel
theorem dH_isHeld_0 : decode prog_1_method_37_code 0 = .ok (.iconst 0, 1) := by decide +kernel
theorem dH_isHeld_1 : decode prog_1_method_37_code 1 = .ok (.istore_n 3, 1) := by decide +kernel
theorem dH_isHeld_2 : decode prog_1_method_37_code 2 = .ok (.iload_n 3, 1) := by decide +kernel
theorem dH_isHeld_3 : decode prog_1_method_37_code 3 = .ok (.aload_n 0, 1) := by decide +kernel
theorem dH_isHeld_4 : decode prog_1_method_37_code 4 = .ok (.getfield 53, 3) := by decide +kernel
theorem dH_isHeld_7 : decode prog_1_method_37_code 7 = .ok (.if_icmp .ge 51, 3) := by decide +kernel
theorem dH_isHeld_10 : decode prog_1_method_37_code 10 = .ok (.aload_n 0, 1) := by decide +kernel
theorem dH_isHeld_11 : decode prog_1_method_37_code 11 = .ok (.getfield 11, 3) := by decide +kernel
theorem dH_isHeld_14 : decode prog_1_method_37_code 14 = .ok (.iload_n 3, 1) := by decide +kernel
theorem dH_isHeld_15 : decode prog_1_method_37_code 15 = .ok (.aaload, 1) := by decide +kernel
theorem dH_isHeld_16 : decode prog_1_method_37_code 16 = .ok (.astore 4, 2) := by decide +kernel
theorem dH_isHeld_18 : decode prog_1_method_37_code 18 = .ok (.aload 4, 2) := by decide +kernel
theorem dH_isHeld_20 : decode prog_1_method_37_code 20 = .ok (.getfield 71, 3) := by decide +kernel
theorem dH_isHeld_23 : decode prog_1_method_37_code 23 = .ok (.iload_n 2, 1) := by decide +kernel
theorem dH_isHeld_24 : decode prog_1_method_37_code 24 = .ok (.if_icmp .ne 28, 3) := by decide +kernel
theorem dH_isHeld_27 : decode prog_1_method_37_code 27 = .ok (.aload 4, 2) := by decide +kernel
theorem dH_isHeld_29 : decode prog_1_method_37_code 29 = .ok (.invokevirtual 320, 3) := by decide +kernel
theorem dH_isHeld_32 : decode prog_1_method_37_code 32 = .ok (.ifCond .eq 20, 3) := by decide +kernel
theorem dH_isHeld_35 : decode prog_1_method_37_code 35 = .ok (.aload 4, 2) := by decide +kernel
theorem dH_isHeld_37 : decode prog_1_method_37_code 37 = .ok (.getfield 84, 3) := by decide +kernel
theorem dH_isHeld_40 : decode prog_1_method_37_code 40 = .ok (.aload_n 1, 1) := by decide +kernel
theorem dH_isHeld_41 : decode prog_1_method_37_code 41 = .ok (.getfield 88, 3) := by decide +kernel
theorem dH_isHeld_44 : decode prog_1_method_37_code 44 = .ok (.invokevirtual 93, 3) := by decide +kernel
theorem dH_isHeld_47 : decode prog_1_method_37_code 47 = .ok (.ifCond .eq 5, 3) := by decide +kernel
theorem dH_isHeld_50 : decode prog_1_method_37_code 50 = .ok (.iconst 1, 1) := by decide +kernel
theorem dH_isHeld_51 : decode prog_1_method_37_code 51 = .ok (.ireturn, 1) := by decide +kernel
theorem dH_isHeld_52 : decode prog_1_method_37_code 52 = .ok (.iinc 3 1, 3) := by decide +kernel
theorem dH_isHeld_55 : decode prog_1_method_37_code 55 = .ok (.goto (-53), 3) := by decide +kernel
theorem dH_isHeld_58 : decode prog_1_method_37_code 58 = .ok (.iconst 0, 1) := by decide +kernel
theorem dH_isHeld_59 : decode prog_1_method_37_code 59 = .ok (.ireturn, 1) := by decide +kernel
theorem dT_isOpen_0 : decode prog_6_method_5_code 0 = .ok (.aload_n 0, 1) := by decide +kernel
theorem dT_isOpen_1 : decode prog_6_method_5_code 1 = .ok (.getfield 37, 3) := by decide +kernel
theorem dT_isOpen_4 : decode prog_6_method_5_code 4 = .ok (.ifCond .eq 19, 3) := by decide +kernel
theorem dT_isOpen_7 : decode prog_6_method_5_code 7 = .ok (.aload_n 0, 1) := by decide +kernel
theorem dT_isOpen_8 : decode prog_6_method_5_code 8 = .ok (.getfield 37, 3) := by decide +kernel
theorem dT_isOpen_11 : decode prog_6_method_5_code 11 = .ok (.iconst 1, 1) := by decide +kernel
theorem dT_isOpen_12 : decode prog_6_method_5_code 12 = .ok (.if_icmp .eq 11, 3) := by decide +kernel
theorem dT_isOpen_15 : decode prog_6_method_5_code 15 = .ok (.aload_n 0, 1) := by decide +kernel
theorem dT_isOpen_16 : decode prog_6_method_5_code 16 = .ok (.getfield 37, 3) := by decide +kernel
theorem dT_isOpen_19 : decode prog_6_method_5_code 19 = .ok (.iconst 2, 1) := by decide +kernel
theorem dT_isOpen_20 : decode prog_6_method_5_code 20 = .ok (.if_icmp .ne 7, 3) := by decide +kernel
theorem dT_isOpen_23 : decode prog_6_method_5_code 23 = .ok (.iconst 1, 1) := by decide +kernel
theorem dT_isOpen_24 : decode prog_6_method_5_code 24 = .ok (.goto 4, 3) := by decide +kernel
theorem dT_isOpen_27 : decode prog_6_method_5_code 27 = .ok (.iconst 0, 1) := by decide +kernel
theorem dT_isOpen_28 : decode prog_6_method_5_code 28 = .ok (.ireturn, 1) := by decide +kernel
theorem dH_takeCoins_0 : decode prog_1_method_39_code 0 = .ok (.iconst 0, 1) := by decide +kernel
theorem dH_takeCoins_1 : decode prog_1_method_39_code 1 = .ok (.istore_n 3, 1) := by decide +kernel
theorem dH_takeCoins_2 : decode prog_1_method_39_code 2 = .ok (.iload_n 3, 1) := by decide +kernel
theorem dH_takeCoins_3 : decode prog_1_method_39_code 3 = .ok (.iload_n 2, 1) := by decide +kernel
theorem dH_takeCoins_4 : decode prog_1_method_39_code 4 = .ok (.if_icmp .ge 43, 3) := by decide +kernel
theorem dH_takeCoins_7 : decode prog_1_method_39_code 7 = .ok (.aload_n 0, 1) := by decide +kernel
theorem dH_takeCoins_8 : decode prog_1_method_39_code 8 = .ok (.aload_n 0, 1) := by decide +kernel
theorem dH_takeCoins_9 : decode prog_1_method_39_code 9 = .ok (.getfield 39, 3) := by decide +kernel
theorem dH_takeCoins_12 : decode prog_1_method_39_code 12 = .ok (.iload_n 3, 1) := by decide +kernel
theorem dH_takeCoins_13 : decode prog_1_method_39_code 13 = .ok (.iaload, 1) := by decide +kernel
theorem dH_takeCoins_14 : decode prog_1_method_39_code 14 = .ok (.invokevirtual 126, 3) := by decide +kernel
theorem dH_takeCoins_17 : decode prog_1_method_39_code 17 = .ok (.astore 4, 2) := by decide +kernel
theorem dH_takeCoins_19 : decode prog_1_method_39_code 19 = .ok (.aload 4, 2) := by decide +kernel
theorem dH_takeCoins_21 : decode prog_1_method_39_code 21 = .ok (.ifnull 20, 3) := by decide +kernel
theorem dH_takeCoins_24 : decode prog_1_method_39_code 24 = .ok (.aload_n 1, 1) := by decide +kernel
theorem dH_takeCoins_25 : decode prog_1_method_39_code 25 = .ok (.aload 4, 2) := by decide +kernel
theorem dH_takeCoins_27 : decode prog_1_method_39_code 27 = .ok (.aload_n 0, 1) := by decide +kernel
theorem dH_takeCoins_28 : decode prog_1_method_39_code 28 = .ok (.getfield 11, 3) := by decide +kernel
theorem dH_takeCoins_31 : decode prog_1_method_39_code 31 = .ok (.aload 4, 2) := by decide +kernel
theorem dH_takeCoins_33 : decode prog_1_method_39_code 33 = .ok (.invokevirtual 311, 3) := by decide +kernel
theorem dH_takeCoins_36 : decode prog_1_method_39_code 36 = .ok (.aaload, 1) := by decide +kernel
theorem dH_takeCoins_37 : decode prog_1_method_39_code 37 = .ok (.invokevirtual 101, 3) := by decide +kernel
theorem dH_takeCoins_40 : decode prog_1_method_39_code 40 = .ok (.pop, 1) := by decide +kernel
theorem dH_takeCoins_41 : decode prog_1_method_39_code 41 = .ok (.iinc 3 1, 3) := by decide +kernel
theorem dH_takeCoins_44 : decode prog_1_method_39_code 44 = .ok (.goto (-42), 3) := by decide +kernel
theorem dH_takeCoins_47 : decode prog_1_method_39_code 47 = .ok (.return_, 1) := by decide +kernel
theorem dH_drop_0 : decode prog_1_method_7_code 0 = .ok (.aload_n 0, 1) := by decide +kernel
theorem dH_drop_1 : decode prog_1_method_7_code 1 = .ok (.iload_n 1, 1) := by decide +kernel
theorem dH_drop_2 : decode prog_1_method_7_code 2 = .ok (.invokevirtual 60, 3) := by decide +kernel
theorem dH_drop_5 : decode prog_1_method_7_code 5 = .ok (.astore_n 2, 1) := by decide +kernel
theorem dH_drop_6 : decode prog_1_method_7_code 6 = .ok (.aload_n 2, 1) := by decide +kernel
theorem dH_drop_7 : decode prog_1_method_7_code 7 = .ok (.ifnull 10, 3) := by decide +kernel
theorem dH_drop_10 : decode prog_1_method_7_code 10 = .ok (.aload_n 2, 1) := by decide +kernel
theorem dH_drop_11 : decode prog_1_method_7_code 11 = .ok (.getfield 68, 3) := by decide +kernel
theorem dH_drop_14 : decode prog_1_method_7_code 14 = .ok (.ifCond .eq 5, 3) := by decide +kernel
theorem dH_drop_17 : decode prog_1_method_7_code 17 = .ok (.iconst 0, 1) := by decide +kernel
theorem dH_drop_18 : decode prog_1_method_7_code 18 = .ok (.ireturn, 1) := by decide +kernel
theorem dH_drop_19 : decode prog_1_method_7_code 19 = .ok (.aload_n 2, 1) := by decide +kernel
theorem dH_drop_20 : decode prog_1_method_7_code 20 = .ok (.bipush 9, 2) := by decide +kernel
theorem dH_drop_22 : decode prog_1_method_7_code 22 = .ok (.putfield 68, 3) := by decide +kernel
theorem dH_drop_25 : decode prog_1_method_7_code 25 = .ok (.iconst 1, 1) := by decide +kernel
theorem dH_drop_26 : decode prog_1_method_7_code 26 = .ok (.ireturn, 1) := by decide +kernel
theorem dH_propose_0 : decode prog_1_method_8_code 0 = .ok (.aload_n 0, 1) := by decide +kernel
theorem dH_propose_1 : decode prog_1_method_8_code 1 = .ok (.iload_n 1, 1) := by decide +kernel
theorem dH_propose_2 : decode prog_1_method_8_code 2 = .ok (.invokevirtual 60, 3) := by decide +kernel
theorem dH_propose_5 : decode prog_1_method_8_code 5 = .ok (.astore_n 3, 1) := by decide +kernel
theorem dH_propose_6 : decode prog_1_method_8_code 6 = .ok (.aload_n 3, 1) := by decide +kernel
theorem dH_propose_7 : decode prog_1_method_8_code 7 = .ok (.ifnonnull 5, 3) := by decide +kernel
theorem dH_propose_10 : decode prog_1_method_8_code 10 = .ok (.iconst (-1), 1) := by decide +kernel
theorem dH_propose_11 : decode prog_1_method_8_code 11 = .ok (.ireturn, 1) := by decide +kernel
theorem dH_propose_12 : decode prog_1_method_8_code 12 = .ok (.aload_n 3, 1) := by decide +kernel
theorem dH_propose_13 : decode prog_1_method_8_code 13 = .ok (.getfield 68, 3) := by decide +kernel
theorem dH_propose_16 : decode prog_1_method_8_code 16 = .ok (.ifCond .eq 6, 3) := by decide +kernel
theorem dH_propose_19 : decode prog_1_method_8_code 19 = .ok (.bipush (-2), 2) := by decide +kernel
theorem dH_propose_21 : decode prog_1_method_8_code 21 = .ok (.ireturn, 1) := by decide +kernel
theorem dH_propose_22 : decode prog_1_method_8_code 22 = .ok (.iload_n 2, 1) := by decide +kernel
theorem dH_propose_23 : decode prog_1_method_8_code 23 = .ok (.ifCond .ne 13, 3) := by decide +kernel
theorem dH_propose_26 : decode prog_1_method_8_code 26 = .ok (.aload_n 3, 1) := by decide +kernel
theorem dH_propose_27 : decode prog_1_method_8_code 27 = .ok (.invokevirtual 141, 3) := by decide +kernel
theorem dH_propose_30 : decode prog_1_method_8_code 30 = .ok (.ifCond .ne 6, 3) := by decide +kernel
theorem dH_propose_33 : decode prog_1_method_8_code 33 = .ok (.bipush (-8), 2) := by decide +kernel
theorem dH_propose_35 : decode prog_1_method_8_code 35 = .ok (.ireturn, 1) := by decide +kernel
theorem dH_propose_36 : decode prog_1_method_8_code 36 = .ok (.aload_n 3, 1) := by decide +kernel
theorem dH_propose_37 : decode prog_1_method_8_code 37 = .ok (.iload_n 2, 1) := by decide +kernel
theorem dH_propose_38 : decode prog_1_method_8_code 38 = .ok (.invokevirtual 145, 3) := by decide +kernel
theorem dH_propose_41 : decode prog_1_method_8_code 41 = .ok (.iload_n 2, 1) := by decide +kernel
theorem dH_propose_42 : decode prog_1_method_8_code 42 = .ok (.ifCond .ne 10, 3) := by decide +kernel
theorem dH_propose_45 : decode prog_1_method_8_code 45 = .ok (.aload_n 3, 1) := by decide +kernel
theorem dH_propose_46 : decode prog_1_method_8_code 46 = .ok (.invokevirtual 149, 3) := by decide +kernel
theorem dH_propose_49 : decode prog_1_method_8_code 49 = .ok (.ifCond .eq 14, 3) := by decide +kernel
theorem dH_propose_52 : decode prog_1_method_8_code 52 = .ok (.aload_n 3, 1) := by decide +kernel
theorem dH_propose_53 : decode prog_1_method_8_code 53 = .ok (.iconst 2, 1) := by decide +kernel
theorem dH_propose_54 : decode prog_1_method_8_code 54 = .ok (.putfield 68, 3) := by decide +kernel
theorem dH_propose_57 : decode prog_1_method_8_code 57 = .ok (.aload_n 0, 1) := by decide +kernel
theorem dH_propose_58 : decode prog_1_method_8_code 58 = .ok (.aload_n 3, 1) := by decide +kernel
theorem dH_propose_59 : decode prog_1_method_8_code 59 = .ok (.invokevirtual 152, 3) := by decide +kernel
theorem dH_propose_62 : decode prog_1_method_8_code 62 = .ok (.ireturn, 1) := by decide +kernel
theorem dH_propose_63 : decode prog_1_method_8_code 63 = .ok (.aload_n 3, 1) := by decide +kernel
theorem dH_propose_64 : decode prog_1_method_8_code 64 = .ok (.iconst 1, 1) := by decide +kernel
theorem dH_propose_65 : decode prog_1_method_8_code 65 = .ok (.putfield 68, 3) := by decide +kernel
theorem dH_propose_68 : decode prog_1_method_8_code 68 = .ok (.aload_n 0, 1) := by decide +kernel
theorem dH_propose_69 : decode prog_1_method_8_code 69 = .ok (.iconst 0, 1) := by decide +kernel
theorem dH_propose_70 : decode prog_1_method_8_code 70 = .ok (.aload_n 3, 1) := by decide +kernel
theorem dH_propose_71 : decode prog_1_method_8_code 71 = .ok (.aload_n 3, 1) := by decide +kernel
theorem dH_propose_72 : decode prog_1_method_8_code 72 = .ok (.getfield 156, 3) := by decide +kernel
theorem dH_propose_75 : decode prog_1_method_8_code 75 = .ok (.invokevirtual 159, 3) := by decide +kernel
theorem dH_propose_78 : decode prog_1_method_8_code 78 = .ok (.ireturn, 1) := by decide +kernel
theorem dT_isValid_0 : decode prog_6_method_8_code 0 = .ok (.aload_n 0, 1) := by decide +kernel
theorem dT_isValid_1 : decode prog_6_method_8_code 1 = .ok (.getfield 30, 3) := by decide +kernel
theorem dT_isValid_4 : decode prog_6_method_8_code 4 = .ok (.getfield 56, 3) := by decide +kernel
theorem dT_isValid_7 : decode prog_6_method_8_code 7 = .ok (.ifCond .ne 15, 3) := by decide +kernel
theorem dT_isValid_10 : decode prog_6_method_8_code 10 = .ok (.aload_n 0, 1) := by decide +kernel
theorem dT_isValid_11 : decode prog_6_method_8_code 11 = .ok (.getfield 34, 3) := by decide +kernel
theorem dT_isValid_14 : decode prog_6_method_8_code 14 = .ok (.getfield 56, 3) := by decide +kernel
theorem dT_isValid_17 : decode prog_6_method_8_code 17 = .ok (.ifCond .ne 5, 3) := by decide +kernel
theorem dT_isValid_20 : decode prog_6_method_8_code 20 = .ok (.iconst 0, 1) := by decide +kernel
theorem dT_isValid_21 : decode prog_6_method_8_code 21 = .ok (.ireturn, 1) := by decide +kernel
theorem dT_isValid_22 : decode prog_6_method_8_code 22 = .ok (.iconst 0, 1) := by decide +kernel
theorem dT_isValid_23 : decode prog_6_method_8_code 23 = .ok (.istore_n 1, 1) := by decide +kernel
theorem dT_isValid_24 : decode prog_6_method_8_code 24 = .ok (.iload_n 1, 1) := by decide +kernel
theorem dT_isValid_25 : decode prog_6_method_8_code 25 = .ok (.aload_n 0, 1) := by decide +kernel
theorem dT_isValid_26 : decode prog_6_method_8_code 26 = .ok (.getfield 30, 3) := by decide +kernel
theorem dT_isValid_29 : decode prog_6_method_8_code 29 = .ok (.getfield 56, 3) := by decide +kernel
theorem dT_isValid_32 : decode prog_6_method_8_code 32 = .ok (.if_icmp .ge 27, 3) := by decide +kernel
theorem dT_isValid_35 : decode prog_6_method_8_code 35 = .ok (.aload_n 0, 1) := by decide +kernel
theorem dT_isValid_36 : decode prog_6_method_8_code 36 = .ok (.aload_n 0, 1) := by decide +kernel
theorem dT_isValid_37 : decode prog_6_method_8_code 37 = .ok (.getfield 30, 3) := by decide +kernel
theorem dT_isValid_40 : decode prog_6_method_8_code 40 = .ok (.getfield 93, 3) := by decide +kernel
theorem dT_isValid_43 : decode prog_6_method_8_code 43 = .ok (.iload_n 1, 1) := by decide +kernel
theorem dT_isValid_44 : decode prog_6_method_8_code 44 = .ok (.aaload, 1) := by decide +kernel
theorem dT_isValid_45 : decode prog_6_method_8_code 45 = .ok (.invokevirtual 97, 3) := by decide +kernel
theorem dT_isValid_48 : decode prog_6_method_8_code 48 = .ok (.ifCond .ne 5, 3) := by decide +kernel
theorem dT_isValid_51 : decode prog_6_method_8_code 51 = .ok (.iconst 0, 1) := by decide +kernel
theorem dT_isValid_52 : decode prog_6_method_8_code 52 = .ok (.ireturn, 1) := by decide +kernel
theorem dT_isValid_53 : decode prog_6_method_8_code 53 = .ok (.iinc 1 1, 3) := by decide +kernel
theorem dT_isValid_56 : decode prog_6_method_8_code 56 = .ok (.goto (-32), 3) := by decide +kernel
theorem dT_isValid_59 : decode prog_6_method_8_code 59 = .ok (.iconst 1, 1) := by decide +kernel
theorem dT_isValid_60 : decode prog_6_method_8_code 60 = .ok (.ireturn, 1) := by decide +kernel
theorem dT_allowsInput_0 : decode prog_6_method_9_code 0 = .ok (.aload_n 1, 1) := by decide +kernel
theorem dT_allowsInput_1 : decode prog_6_method_9_code 1 = .ok (.invokevirtual 101, 3) := by decide +kernel
theorem dT_allowsInput_4 : decode prog_6_method_9_code 4 = .ok (.ifCond .eq 19, 3) := by decide +kernel
theorem dT_allowsInput_7 : decode prog_6_method_9_code 7 = .ok (.aload_n 0, 1) := by decide +kernel
theorem dT_allowsInput_8 : decode prog_6_method_9_code 8 = .ok (.getfield 30, 3) := by decide +kernel
theorem dT_allowsInput_11 : decode prog_6_method_9_code 11 = .ok (.aload_n 1, 1) := by decide +kernel
theorem dT_allowsInput_12 : decode prog_6_method_9_code 12 = .ok (.invokevirtual 104, 3) := by decide +kernel
theorem dT_allowsInput_15 : decode prog_6_method_9_code 15 = .ok (.invokevirtual 107, 3) := by decide +kernel
theorem dT_allowsInput_18 : decode prog_6_method_9_code 18 = .ok (.ifCond .ne 5, 3) := by decide +kernel
theorem dT_allowsInput_21 : decode prog_6_method_9_code 21 = .ok (.iconst 0, 1) := by decide +kernel
theorem dT_allowsInput_22 : decode prog_6_method_9_code 22 = .ok (.ireturn, 1) := by decide +kernel
theorem dT_allowsInput_23 : decode prog_6_method_9_code 23 = .ok (.aload_n 1, 1) := by decide +kernel
theorem dT_allowsInput_24 : decode prog_6_method_9_code 24 = .ok (.getfield 111, 3) := by decide +kernel
theorem dT_allowsInput_27 : decode prog_6_method_9_code 27 = .ok (.iconst 2, 1) := by decide +kernel
theorem dT_allowsInput_28 : decode prog_6_method_9_code 28 = .ok (.if_icmp .ne 14, 3) := by decide +kernel
theorem dT_allowsInput_31 : decode prog_6_method_9_code 31 = .ok (.aload_n 1, 1) := by decide +kernel
theorem dT_allowsInput_32 : decode prog_6_method_9_code 32 = .ok (.getfield 114, 3) := by decide +kernel
theorem dT_allowsInput_35 : decode prog_6_method_9_code 35 = .ok (.aload_n 0, 1) := by decide +kernel
theorem dT_allowsInput_36 : decode prog_6_method_9_code 36 = .ok (.getfield 21, 3) := by decide +kernel
theorem dT_allowsInput_39 : decode prog_6_method_9_code 39 = .ok (.if_icmp .gt 7, 3) := by decide +kernel
theorem dT_allowsInput_42 : decode prog_6_method_9_code 42 = .ok (.iconst 1, 1) := by decide +kernel
theorem dT_allowsInput_43 : decode prog_6_method_9_code 43 = .ok (.goto 4, 3) := by decide +kernel
theorem dT_allowsInput_46 : decode prog_6_method_9_code 46 = .ok (.iconst 0, 1) := by decide +kernel
theorem dT_allowsInput_47 : decode prog_6_method_9_code 47 = .ok (.ireturn, 1) := by decide +kernel
theorem dS_boundNumber_0 : decode prog_4_method_4_code 0 = .ok (.aload_n 0, 1) := by decide +kernel
theorem dS_boundNumber_1 : decode prog_4_method_4_code 1 = .ok (.invokevirtual 30, 3) := by decide +kernel
theorem dS_boundNumber_4 : decode prog_4_method_4_code 4 = .ok (.iconst 4, 1) := by decide +kernel
theorem dS_boundNumber_5 : decode prog_4_method_4_code 5 = .ok (.imul, 1) := by decide +kernel
theorem dS_boundNumber_6 : decode prog_4_method_4_code 6 = .ok (.aload_n 0, 1) := by decide +kernel
theorem dS_boundNumber_7 : decode prog_4_method_4_code 7 = .ok (.getfield 27, 3) := by decide +kernel
theorem dS_boundNumber_10 : decode prog_4_method_4_code 10 = .ok (.iadd, 1) := by decide +kernel
theorem dS_boundNumber_11 : decode prog_4_method_4_code 11 = .ok (.ireturn, 1) := by decide +kernel
theorem dT_seal_0 : decode prog_6_method_6_code 0 = .ok (.aload_n 0, 1) := by decide +kernel
theorem dT_seal_1 : decode prog_6_method_6_code 1 = .ok (.aload_n 0, 1) := by decide +kernel
theorem dT_seal_2 : decode prog_6_method_6_code 2 = .ok (.getfield 15, 3) := by decide +kernel
theorem dT_seal_5 : decode prog_6_method_6_code 5 = .ok (.invokestatic 46, 3) := by decide +kernel
theorem dT_seal_8 : decode prog_6_method_6_code 8 = .ok (.putfield 72, 3) := by decide +kernel
theorem dT_seal_11 : decode prog_6_method_6_code 11 = .ok (.aload_n 0, 1) := by decide +kernel
theorem dT_seal_12 : decode prog_6_method_6_code 12 = .ok (.aload_n 0, 1) := by decide +kernel
theorem dT_seal_13 : decode prog_6_method_6_code 13 = .ok (.invokevirtual 75, 3) := by decide +kernel
theorem dT_seal_16 : decode prog_6_method_6_code 16 = .ok (.putfield 79, 3) := by decide +kernel
theorem dT_seal_19 : decode prog_6_method_6_code 19 = .ok (.aload_n 0, 1) := by decide +kernel
theorem dT_seal_20 : decode prog_6_method_6_code 20 = .ok (.aload_n 0, 1) := by decide +kernel
theorem dT_seal_21 : decode prog_6_method_6_code 21 = .ok (.invokevirtual 82, 3) := by decide +kernel
theorem dT_seal_24 : decode prog_6_method_6_code 24 = .ok (.ifCond .eq 18, 3) := by decide +kernel
theorem dT_seal_27 : decode prog_6_method_6_code 27 = .ok (.iload_n 1, 1) := by decide +kernel
theorem dT_seal_28 : decode prog_6_method_6_code 28 = .ok (.ifCond .eq 10, 3) := by decide +kernel
theorem dT_seal_31 : decode prog_6_method_6_code 31 = .ok (.aload_n 0, 1) := by decide +kernel
theorem dT_seal_32 : decode prog_6_method_6_code 32 = .ok (.invokevirtual 86, 3) := by decide +kernel
theorem dT_seal_35 : decode prog_6_method_6_code 35 = .ok (.ifCond .eq 7, 3) := by decide +kernel
theorem dT_seal_38 : decode prog_6_method_6_code 38 = .ok (.iconst 1, 1) := by decide +kernel
theorem dT_seal_39 : decode prog_6_method_6_code 39 = .ok (.goto 4, 3) := by decide +kernel
theorem dT_seal_42 : decode prog_6_method_6_code 42 = .ok (.iconst 0, 1) := by decide +kernel
theorem dT_seal_43 : decode prog_6_method_6_code 43 = .ok (.putfield 89, 3) := by decide +kernel
theorem dT_seal_46 : decode prog_6_method_6_code 46 = .ok (.return_, 1) := by decide +kernel
theorem dT_needs_0 : decode prog_6_method_10_code 0 = .ok (.aload_n 0, 1) := by decide +kernel
theorem dT_needs_1 : decode prog_6_method_10_code 1 = .ok (.getfield 15, 3) := by decide +kernel
theorem dT_needs_4 : decode prog_6_method_10_code 4 = .ok (.invokestatic 46, 3) := by decide +kernel
theorem dT_needs_7 : decode prog_6_method_10_code 7 = .ok (.istore_n 1, 1) := by decide +kernel
theorem dT_needs_8 : decode prog_6_method_10_code 8 = .ok (.iconst 0, 1) := by decide +kernel
theorem dT_needs_9 : decode prog_6_method_10_code 9 = .ok (.istore_n 2, 1) := by decide +kernel
theorem dT_needs_10 : decode prog_6_method_10_code 10 = .ok (.iload_n 2, 1) := by decide +kernel
theorem dT_needs_11 : decode prog_6_method_10_code 11 = .ok (.iconst 4, 1) := by decide +kernel
theorem dT_needs_12 : decode prog_6_method_10_code 12 = .ok (.if_icmp .ge 24, 3) := by decide +kernel
theorem dT_needs_15 : decode prog_6_method_10_code 15 = .ok (.aload_n 0, 1) := by decide +kernel
theorem dT_needs_16 : decode prog_6_method_10_code 16 = .ok (.iload_n 2, 1) := by decide +kernel
theorem dT_needs_17 : decode prog_6_method_10_code 17 = .ok (.invokevirtual 117, 3) := by decide +kernel
theorem dT_needs_20 : decode prog_6_method_10_code 20 = .ok (.ifCond .eq 10, 3) := by decide +kernel
theorem dT_needs_23 : decode prog_6_method_10_code 23 = .ok (.iload_n 1, 1) := by decide +kernel
theorem dT_needs_24 : decode prog_6_method_10_code 24 = .ok (.iload_n 2, 1) := by decide +kernel
theorem dT_needs_25 : decode prog_6_method_10_code 25 = .ok (.invokestatic 46, 3) := by decide +kernel
theorem dT_needs_28 : decode prog_6_method_10_code 28 = .ok (.ior, 1) := by decide +kernel
theorem dT_needs_29 : decode prog_6_method_10_code 29 = .ok (.istore_n 1, 1) := by decide +kernel
theorem dT_needs_30 : decode prog_6_method_10_code 30 = .ok (.iinc 2 1, 3) := by decide +kernel
theorem dT_needs_33 : decode prog_6_method_10_code 33 = .ok (.goto (-23), 3) := by decide +kernel
theorem dT_needs_36 : decode prog_6_method_10_code 36 = .ok (.iload_n 1, 1) := by decide +kernel
theorem dT_needs_37 : decode prog_6_method_10_code 37 = .ok (.ireturn, 1) := by decide +kernel
theorem dT_mustSign_0 : decode prog_6_method_11_code 0 = .ok (.aload_n 0, 1) := by decide +kernel
theorem dT_mustSign_1 : decode prog_6_method_11_code 1 = .ok (.getfield 30, 3) := by decide +kernel
theorem dT_mustSign_4 : decode prog_6_method_11_code 4 = .ok (.iload_n 1, 1) := by decide +kernel
theorem dT_mustSign_5 : decode prog_6_method_11_code 5 = .ok (.invokevirtual 120, 3) := by decide +kernel
theorem dT_mustSign_8 : decode prog_6_method_11_code 8 = .ok (.ifCond .ne 38, 3) := by decide +kernel
theorem dT_mustSign_11 : decode prog_6_method_11_code 11 = .ok (.aload_n 0, 1) := by decide +kernel
theorem dT_mustSign_12 : decode prog_6_method_11_code 12 = .ok (.getfield 30, 3) := by decide +kernel
theorem dT_mustSign_15 : decode prog_6_method_11_code 15 = .ok (.iload_n 1, 1) := by decide +kernel
theorem dT_mustSign_16 : decode prog_6_method_11_code 16 = .ok (.invokevirtual 123, 3) := by decide +kernel
theorem dT_mustSign_19 : decode prog_6_method_11_code 19 = .ok (.aload_n 0, 1) := by decide +kernel
theorem dT_mustSign_20 : decode prog_6_method_11_code 20 = .ok (.getfield 34, 3) := by decide +kernel
theorem dT_mustSign_23 : decode prog_6_method_11_code 23 = .ok (.iload_n 1, 1) := by decide +kernel
theorem dT_mustSign_24 : decode prog_6_method_11_code 24 = .ok (.invokevirtual 123, 3) := by decide +kernel
theorem dT_mustSign_27 : decode prog_6_method_11_code 27 = .ok (.if_icmp .ne 19, 3) := by decide +kernel
theorem dT_mustSign_30 : decode prog_6_method_11_code 30 = .ok (.aload_n 0, 1) := by decide +kernel
theorem dT_mustSign_31 : decode prog_6_method_11_code 31 = .ok (.iload_n 1, 1) := by decide +kernel
theorem dT_mustSign_32 : decode prog_6_method_11_code 32 = .ok (.invokevirtual 126, 3) := by decide +kernel
theorem dT_mustSign_35 : decode prog_6_method_11_code 35 = .ok (.ifCond .ne 11, 3) := by decide +kernel
theorem dT_mustSign_38 : decode prog_6_method_11_code 38 = .ok (.aload_n 0, 1) := by decide +kernel
theorem dT_mustSign_39 : decode prog_6_method_11_code 39 = .ok (.iload_n 1, 1) := by decide +kernel
theorem dT_mustSign_40 : decode prog_6_method_11_code 40 = .ok (.invokevirtual 129, 3) := by decide +kernel
theorem dT_mustSign_43 : decode prog_6_method_11_code 43 = .ok (.ifCond .eq 7, 3) := by decide +kernel
theorem dT_mustSign_46 : decode prog_6_method_11_code 46 = .ok (.iconst 1, 1) := by decide +kernel
theorem dT_mustSign_47 : decode prog_6_method_11_code 47 = .ok (.goto 4, 3) := by decide +kernel
theorem dT_mustSign_50 : decode prog_6_method_11_code 50 = .ok (.iconst 0, 1) := by decide +kernel
theorem dT_mustSign_51 : decode prog_6_method_11_code 51 = .ok (.ireturn, 1) := by decide +kernel
theorem dL_holdsCashOwnedBy_0 : decode prog_5_method_5_code 0 = .ok (.iconst 0, 1) := by decide +kernel
theorem dL_holdsCashOwnedBy_1 : decode prog_5_method_5_code 1 = .ok (.istore_n 2, 1) := by decide +kernel
theorem dL_holdsCashOwnedBy_2 : decode prog_5_method_5_code 2 = .ok (.iload_n 2, 1) := by decide +kernel
theorem dL_holdsCashOwnedBy_3 : decode prog_5_method_5_code 3 = .ok (.aload_n 0, 1) := by decide +kernel
theorem dL_holdsCashOwnedBy_4 : decode prog_5_method_5_code 4 = .ok (.getfield 17, 3) := by decide +kernel
theorem dL_holdsCashOwnedBy_7 : decode prog_5_method_5_code 7 = .ok (.if_icmp .ge 24, 3) := by decide +kernel
theorem dL_holdsCashOwnedBy_10 : decode prog_5_method_5_code 10 = .ok (.aload_n 0, 1) := by decide +kernel
theorem dL_holdsCashOwnedBy_11 : decode prog_5_method_5_code 11 = .ok (.getfield 11, 3) := by decide +kernel
theorem dL_holdsCashOwnedBy_14 : decode prog_5_method_5_code 14 = .ok (.iload_n 2, 1) := by decide +kernel
theorem dL_holdsCashOwnedBy_15 : decode prog_5_method_5_code 15 = .ok (.aaload, 1) := by decide +kernel
theorem dL_holdsCashOwnedBy_16 : decode prog_5_method_5_code 16 = .ok (.iload_n 1, 1) := by decide +kernel
theorem dL_holdsCashOwnedBy_17 : decode prog_5_method_5_code 17 = .ok (.invokevirtual 24, 3) := by decide +kernel
theorem dL_holdsCashOwnedBy_20 : decode prog_5_method_5_code 20 = .ok (.ifCond .eq 5, 3) := by decide +kernel
theorem dL_holdsCashOwnedBy_23 : decode prog_5_method_5_code 23 = .ok (.iconst 1, 1) := by decide +kernel
theorem dL_holdsCashOwnedBy_24 : decode prog_5_method_5_code 24 = .ok (.ireturn, 1) := by decide +kernel
theorem dL_holdsCashOwnedBy_25 : decode prog_5_method_5_code 25 = .ok (.iinc 2 1, 3) := by decide +kernel
theorem dL_holdsCashOwnedBy_28 : decode prog_5_method_5_code 28 = .ok (.goto (-26), 3) := by decide +kernel
theorem dL_holdsCashOwnedBy_31 : decode prog_5_method_5_code 31 = .ok (.iconst 0, 1) := by decide +kernel
theorem dL_holdsCashOwnedBy_32 : decode prog_5_method_5_code 32 = .ok (.ireturn, 1) := by decide +kernel
theorem dL_cashIssuedBy_0 : decode prog_5_method_6_code 0 = .ok (.iconst 0, 1) := by decide +kernel
theorem dL_cashIssuedBy_1 : decode prog_5_method_6_code 1 = .ok (.istore_n 2, 1) := by decide +kernel
theorem dL_cashIssuedBy_2 : decode prog_5_method_6_code 2 = .ok (.iconst 0, 1) := by decide +kernel
theorem dL_cashIssuedBy_3 : decode prog_5_method_6_code 3 = .ok (.istore_n 3, 1) := by decide +kernel
theorem dL_cashIssuedBy_4 : decode prog_5_method_6_code 4 = .ok (.iload_n 3, 1) := by decide +kernel
theorem dL_cashIssuedBy_5 : decode prog_5_method_6_code 5 = .ok (.aload_n 0, 1) := by decide +kernel
theorem dL_cashIssuedBy_6 : decode prog_5_method_6_code 6 = .ok (.getfield 17, 3) := by decide +kernel
theorem dL_cashIssuedBy_9 : decode prog_5_method_6_code 9 = .ok (.if_icmp .ge 34, 3) := by decide +kernel
theorem dL_cashIssuedBy_12 : decode prog_5_method_6_code 12 = .ok (.aload_n 0, 1) := by decide +kernel
theorem dL_cashIssuedBy_13 : decode prog_5_method_6_code 13 = .ok (.getfield 11, 3) := by decide +kernel
theorem dL_cashIssuedBy_16 : decode prog_5_method_6_code 16 = .ok (.iload_n 3, 1) := by decide +kernel
theorem dL_cashIssuedBy_17 : decode prog_5_method_6_code 17 = .ok (.aaload, 1) := by decide +kernel
theorem dL_cashIssuedBy_18 : decode prog_5_method_6_code 18 = .ok (.iload_n 1, 1) := by decide +kernel
theorem dL_cashIssuedBy_19 : decode prog_5_method_6_code 19 = .ok (.invokevirtual 28, 3) := by decide +kernel
theorem dL_cashIssuedBy_22 : decode prog_5_method_6_code 22 = .ok (.ifCond .eq 15, 3) := by decide +kernel
theorem dL_cashIssuedBy_25 : decode prog_5_method_6_code 25 = .ok (.iload_n 2, 1) := by decide +kernel
theorem dL_cashIssuedBy_26 : decode prog_5_method_6_code 26 = .ok (.aload_n 0, 1) := by decide +kernel
theorem dL_cashIssuedBy_27 : decode prog_5_method_6_code 27 = .ok (.getfield 11, 3) := by decide +kernel
theorem dL_cashIssuedBy_30 : decode prog_5_method_6_code 30 = .ok (.iload_n 3, 1) := by decide +kernel
theorem dL_cashIssuedBy_31 : decode prog_5_method_6_code 31 = .ok (.aaload, 1) := by decide +kernel
theorem dL_cashIssuedBy_32 : decode prog_5_method_6_code 32 = .ok (.getfield 31, 3) := by decide +kernel
theorem dL_cashIssuedBy_35 : decode prog_5_method_6_code 35 = .ok (.iadd, 1) := by decide +kernel
theorem dL_cashIssuedBy_36 : decode prog_5_method_6_code 36 = .ok (.istore_n 2, 1) := by decide +kernel
theorem dL_cashIssuedBy_37 : decode prog_5_method_6_code 37 = .ok (.iinc 3 1, 3) := by decide +kernel
theorem dL_cashIssuedBy_40 : decode prog_5_method_6_code 40 = .ok (.goto (-36), 3) := by decide +kernel
theorem dL_cashIssuedBy_43 : decode prog_5_method_6_code 43 = .ok (.iload_n 2, 1) := by decide +kernel
theorem dL_cashIssuedBy_44 : decode prog_5_method_6_code 44 = .ok (.ireturn, 1) := by decide +kernel
theorem dT_owesMore_0 : decode prog_6_method_12_code 0 = .ok (.iconst 0, 1) := by decide +kernel
theorem dT_owesMore_1 : decode prog_6_method_12_code 1 = .ok (.istore_n 2, 1) := by decide +kernel
theorem dT_owesMore_2 : decode prog_6_method_12_code 2 = .ok (.iload_n 2, 1) := by decide +kernel
theorem dT_owesMore_3 : decode prog_6_method_12_code 3 = .ok (.iconst 4, 1) := by decide +kernel
theorem dT_owesMore_4 : decode prog_6_method_12_code 4 = .ok (.if_icmp .ge 32, 3) := by decide +kernel
theorem dT_owesMore_7 : decode prog_6_method_12_code 7 = .ok (.aload_n 0, 1) := by decide +kernel
theorem dT_owesMore_8 : decode prog_6_method_12_code 8 = .ok (.getfield 34, 3) := by decide +kernel
theorem dT_owesMore_11 : decode prog_6_method_12_code 11 = .ok (.iload_n 1, 1) := by decide +kernel
theorem dT_owesMore_12 : decode prog_6_method_12_code 12 = .ok (.iload_n 2, 1) := by decide +kernel
theorem dT_owesMore_13 : decode prog_6_method_12_code 13 = .ok (.invokevirtual 132, 3) := by decide +kernel
theorem dT_owesMore_16 : decode prog_6_method_12_code 16 = .ok (.aload_n 0, 1) := by decide +kernel
theorem dT_owesMore_17 : decode prog_6_method_12_code 17 = .ok (.getfield 30, 3) := by decide +kernel
theorem dT_owesMore_20 : decode prog_6_method_12_code 20 = .ok (.iload_n 1, 1) := by decide +kernel
theorem dT_owesMore_21 : decode prog_6_method_12_code 21 = .ok (.iload_n 2, 1) := by decide +kernel
theorem dT_owesMore_22 : decode prog_6_method_12_code 22 = .ok (.invokevirtual 132, 3) := by decide +kernel
theorem dT_owesMore_25 : decode prog_6_method_12_code 25 = .ok (.if_icmp .le 5, 3) := by decide +kernel
theorem dT_owesMore_28 : decode prog_6_method_12_code 28 = .ok (.iconst 1, 1) := by decide +kernel
theorem dT_owesMore_29 : decode prog_6_method_12_code 29 = .ok (.ireturn, 1) := by decide +kernel
theorem dT_owesMore_30 : decode prog_6_method_12_code 30 = .ok (.iinc 2 1, 3) := by decide +kernel
theorem dT_owesMore_33 : decode prog_6_method_12_code 33 = .ok (.goto (-31), 3) := by decide +kernel
theorem dT_owesMore_36 : decode prog_6_method_12_code 36 = .ok (.iconst 0, 1) := by decide +kernel
theorem dT_owesMore_37 : decode prog_6_method_12_code 37 = .ok (.ireturn, 1) := by decide +kernel
theorem dL_debtOf_0 : decode prog_5_method_8_code 0 = .ok (.iconst 0, 1) := by decide +kernel
theorem dL_debtOf_1 : decode prog_5_method_8_code 1 = .ok (.istore_n 3, 1) := by decide +kernel
theorem dL_debtOf_2 : decode prog_5_method_8_code 2 = .ok (.iconst 0, 1) := by decide +kernel
theorem dL_debtOf_3 : decode prog_5_method_8_code 3 = .ok (.istore 4, 2) := by decide +kernel
theorem dL_debtOf_5 : decode prog_5_method_8_code 5 = .ok (.iload 4, 2) := by decide +kernel
theorem dL_debtOf_7 : decode prog_5_method_8_code 7 = .ok (.aload_n 0, 1) := by decide +kernel
theorem dL_debtOf_8 : decode prog_5_method_8_code 8 = .ok (.getfield 17, 3) := by decide +kernel
theorem dL_debtOf_11 : decode prog_5_method_8_code 11 = .ok (.if_icmp .ge 37, 3) := by decide +kernel
theorem dL_debtOf_14 : decode prog_5_method_8_code 14 = .ok (.aload_n 0, 1) := by decide +kernel
theorem dL_debtOf_15 : decode prog_5_method_8_code 15 = .ok (.getfield 11, 3) := by decide +kernel
theorem dL_debtOf_18 : decode prog_5_method_8_code 18 = .ok (.iload 4, 2) := by decide +kernel
theorem dL_debtOf_20 : decode prog_5_method_8_code 20 = .ok (.aaload, 1) := by decide +kernel
theorem dL_debtOf_21 : decode prog_5_method_8_code 21 = .ok (.iload_n 1, 1) := by decide +kernel
theorem dL_debtOf_22 : decode prog_5_method_8_code 22 = .ok (.iload_n 2, 1) := by decide +kernel
theorem dL_debtOf_23 : decode prog_5_method_8_code 23 = .ok (.invokevirtual 34, 3) := by decide +kernel
theorem dL_debtOf_26 : decode prog_5_method_8_code 26 = .ok (.ifCond .eq 16, 3) := by decide +kernel
theorem dL_debtOf_29 : decode prog_5_method_8_code 29 = .ok (.iload_n 3, 1) := by decide +kernel
theorem dL_debtOf_30 : decode prog_5_method_8_code 30 = .ok (.aload_n 0, 1) := by decide +kernel
theorem dL_debtOf_31 : decode prog_5_method_8_code 31 = .ok (.getfield 11, 3) := by decide +kernel
theorem dL_debtOf_34 : decode prog_5_method_8_code 34 = .ok (.iload 4, 2) := by decide +kernel
theorem dL_debtOf_36 : decode prog_5_method_8_code 36 = .ok (.aaload, 1) := by decide +kernel
theorem dL_debtOf_37 : decode prog_5_method_8_code 37 = .ok (.getfield 31, 3) := by decide +kernel
theorem dL_debtOf_40 : decode prog_5_method_8_code 40 = .ok (.iadd, 1) := by decide +kernel
theorem dL_debtOf_41 : decode prog_5_method_8_code 41 = .ok (.istore_n 3, 1) := by decide +kernel
theorem dL_debtOf_42 : decode prog_5_method_8_code 42 = .ok (.iinc 4 1, 3) := by decide +kernel
theorem dL_debtOf_45 : decode prog_5_method_8_code 45 = .ok (.goto (-40), 3) := by decide +kernel
theorem dL_debtOf_48 : decode prog_5_method_8_code 48 = .ok (.iload_n 3, 1) := by decide +kernel
theorem dL_debtOf_49 : decode prog_5_method_8_code 49 = .ok (.ireturn, 1) := by decide +kernel
theorem dS_isDebtOf_0 : decode prog_4_method_7_code 0 = .ok (.aload_n 0, 1) := by decide +kernel
theorem dS_isDebtOf_1 : decode prog_4_method_7_code 1 = .ok (.getfield 15, 3) := by decide +kernel
theorem dS_isDebtOf_4 : decode prog_4_method_7_code 4 = .ok (.iconst 1, 1) := by decide +kernel
theorem dS_isDebtOf_5 : decode prog_4_method_7_code 5 = .ok (.if_icmp .ne 23, 3) := by decide +kernel
theorem dS_isDebtOf_8 : decode prog_4_method_7_code 8 = .ok (.aload_n 0, 1) := by decide +kernel
theorem dS_isDebtOf_9 : decode prog_4_method_7_code 9 = .ok (.getfield 18, 3) := by decide +kernel
theorem dS_isDebtOf_12 : decode prog_4_method_7_code 12 = .ok (.iload_n 1, 1) := by decide +kernel
theorem dS_isDebtOf_13 : decode prog_4_method_7_code 13 = .ok (.if_icmp .ne 15, 3) := by decide +kernel
theorem dS_isDebtOf_16 : decode prog_4_method_7_code 16 = .ok (.aload_n 0, 1) := by decide +kernel
theorem dS_isDebtOf_17 : decode prog_4_method_7_code 17 = .ok (.getfield 21, 3) := by decide +kernel
theorem dS_isDebtOf_20 : decode prog_4_method_7_code 20 = .ok (.iload_n 2, 1) := by decide +kernel
theorem dS_isDebtOf_21 : decode prog_4_method_7_code 21 = .ok (.if_icmp .ne 7, 3) := by decide +kernel
theorem dS_isDebtOf_24 : decode prog_4_method_7_code 24 = .ok (.iconst 1, 1) := by decide +kernel
theorem dS_isDebtOf_25 : decode prog_4_method_7_code 25 = .ok (.goto 4, 3) := by decide +kernel
theorem dS_isDebtOf_28 : decode prog_4_method_7_code 28 = .ok (.iconst 0, 1) := by decide +kernel
theorem dS_isDebtOf_29 : decode prog_4_method_7_code 29 = .ok (.ireturn, 1) := by decide +kernel
theorem dT_isLetDown_0 : decode prog_6_method_13_code 0 = .ok (.iconst 0, 1) := by decide +kernel
theorem dT_isLetDown_1 : decode prog_6_method_13_code 1 = .ok (.istore_n 2, 1) := by decide +kernel
theorem dT_isLetDown_2 : decode prog_6_method_13_code 2 = .ok (.iconst 0, 1) := by decide +kernel
theorem dT_isLetDown_3 : decode prog_6_method_13_code 3 = .ok (.istore_n 3, 1) := by decide +kernel
theorem dT_isLetDown_4 : decode prog_6_method_13_code 4 = .ok (.iload_n 3, 1) := by decide +kernel
theorem dT_isLetDown_5 : decode prog_6_method_13_code 5 = .ok (.iconst 4, 1) := by decide +kernel
theorem dT_isLetDown_6 : decode prog_6_method_13_code 6 = .ok (.if_icmp .ge 39, 3) := by decide +kernel
theorem dT_isLetDown_9 : decode prog_6_method_13_code 9 = .ok (.aload_n 0, 1) := by decide +kernel
theorem dT_isLetDown_10 : decode prog_6_method_13_code 10 = .ok (.getfield 30, 3) := by decide +kernel
theorem dT_isLetDown_13 : decode prog_6_method_13_code 13 = .ok (.iload_n 3, 1) := by decide +kernel
theorem dT_isLetDown_14 : decode prog_6_method_13_code 14 = .ok (.iload_n 1, 1) := by decide +kernel
theorem dT_isLetDown_15 : decode prog_6_method_13_code 15 = .ok (.invokevirtual 132, 3) := by decide +kernel
theorem dT_isLetDown_18 : decode prog_6_method_13_code 18 = .ok (.aload_n 0, 1) := by decide +kernel
theorem dT_isLetDown_19 : decode prog_6_method_13_code 19 = .ok (.getfield 34, 3) := by decide +kernel
theorem dT_isLetDown_22 : decode prog_6_method_13_code 22 = .ok (.iload_n 3, 1) := by decide +kernel
theorem dT_isLetDown_23 : decode prog_6_method_13_code 23 = .ok (.iload_n 1, 1) := by decide +kernel
theorem dT_isLetDown_24 : decode prog_6_method_13_code 24 = .ok (.invokevirtual 132, 3) := by decide +kernel
theorem dT_isLetDown_27 : decode prog_6_method_13_code 27 = .ok (.isub, 1) := by decide +kernel
theorem dT_isLetDown_28 : decode prog_6_method_13_code 28 = .ok (.istore 4, 2) := by decide +kernel
theorem dT_isLetDown_30 : decode prog_6_method_13_code 30 = .ok (.iload_n 2, 1) := by decide +kernel
theorem dT_isLetDown_31 : decode prog_6_method_13_code 31 = .ok (.iload 4, 2) := by decide +kernel
theorem dT_isLetDown_33 : decode prog_6_method_13_code 33 = .ok (.iconst 0, 1) := by decide +kernel
theorem dT_isLetDown_34 : decode prog_6_method_13_code 34 = .ok (.invokestatic 136, 3) := by decide +kernel
theorem dT_isLetDown_37 : decode prog_6_method_13_code 37 = .ok (.iadd, 1) := by decide +kernel
theorem dT_isLetDown_38 : decode prog_6_method_13_code 38 = .ok (.istore_n 2, 1) := by decide +kernel
theorem dT_isLetDown_39 : decode prog_6_method_13_code 39 = .ok (.iinc 3 1, 3) := by decide +kernel
theorem dT_isLetDown_42 : decode prog_6_method_13_code 42 = .ok (.goto (-38), 3) := by decide +kernel
theorem dT_isLetDown_45 : decode prog_6_method_13_code 45 = .ok (.iload_n 2, 1) := by decide +kernel
theorem dT_isLetDown_46 : decode prog_6_method_13_code 46 = .ok (.ifCond .le 28, 3) := by decide +kernel
theorem dT_isLetDown_49 : decode prog_6_method_13_code 49 = .ok (.iload_n 2, 1) := by decide +kernel
theorem dT_isLetDown_50 : decode prog_6_method_13_code 50 = .ok (.aload_n 0, 1) := by decide +kernel
theorem dT_isLetDown_51 : decode prog_6_method_13_code 51 = .ok (.getfield 34, 3) := by decide +kernel
theorem dT_isLetDown_54 : decode prog_6_method_13_code 54 = .ok (.iload_n 1, 1) := by decide +kernel
theorem dT_isLetDown_55 : decode prog_6_method_13_code 55 = .ok (.invokevirtual 141, 3) := by decide +kernel
theorem dT_isLetDown_58 : decode prog_6_method_13_code 58 = .ok (.aload_n 0, 1) := by decide +kernel
theorem dT_isLetDown_59 : decode prog_6_method_13_code 59 = .ok (.getfield 30, 3) := by decide +kernel
theorem dT_isLetDown_62 : decode prog_6_method_13_code 62 = .ok (.iload_n 1, 1) := by decide +kernel
theorem dT_isLetDown_63 : decode prog_6_method_13_code 63 = .ok (.invokevirtual 141, 3) := by decide +kernel
theorem dT_isLetDown_66 : decode prog_6_method_13_code 66 = .ok (.isub, 1) := by decide +kernel
theorem dT_isLetDown_67 : decode prog_6_method_13_code 67 = .ok (.if_icmp .le 7, 3) := by decide +kernel
theorem dT_isLetDown_70 : decode prog_6_method_13_code 70 = .ok (.iconst 1, 1) := by decide +kernel
theorem dT_isLetDown_71 : decode prog_6_method_13_code 71 = .ok (.goto 4, 3) := by decide +kernel
theorem dT_isLetDown_74 : decode prog_6_method_13_code 74 = .ok (.iconst 0, 1) := by decide +kernel
theorem dT_isLetDown_75 : decode prog_6_method_13_code 75 = .ok (.ireturn, 1) := by decide +kernel
theorem dL_cashOwnedBy_0 : decode prog_5_method_7_code 0 = .ok (.iconst 0, 1) := by decide +kernel
theorem dL_cashOwnedBy_1 : decode prog_5_method_7_code 1 = .ok (.istore_n 2, 1) := by decide +kernel
theorem dL_cashOwnedBy_2 : decode prog_5_method_7_code 2 = .ok (.iconst 0, 1) := by decide +kernel
theorem dL_cashOwnedBy_3 : decode prog_5_method_7_code 3 = .ok (.istore_n 3, 1) := by decide +kernel
theorem dL_cashOwnedBy_4 : decode prog_5_method_7_code 4 = .ok (.iload_n 3, 1) := by decide +kernel
theorem dL_cashOwnedBy_5 : decode prog_5_method_7_code 5 = .ok (.aload_n 0, 1) := by decide +kernel
theorem dL_cashOwnedBy_6 : decode prog_5_method_7_code 6 = .ok (.getfield 17, 3) := by decide +kernel
theorem dL_cashOwnedBy_9 : decode prog_5_method_7_code 9 = .ok (.if_icmp .ge 34, 3) := by decide +kernel
theorem dL_cashOwnedBy_12 : decode prog_5_method_7_code 12 = .ok (.aload_n 0, 1) := by decide +kernel
theorem dL_cashOwnedBy_13 : decode prog_5_method_7_code 13 = .ok (.getfield 11, 3) := by decide +kernel
theorem dL_cashOwnedBy_16 : decode prog_5_method_7_code 16 = .ok (.iload_n 3, 1) := by decide +kernel
theorem dL_cashOwnedBy_17 : decode prog_5_method_7_code 17 = .ok (.aaload, 1) := by decide +kernel
theorem dL_cashOwnedBy_18 : decode prog_5_method_7_code 18 = .ok (.iload_n 1, 1) := by decide +kernel
theorem dL_cashOwnedBy_19 : decode prog_5_method_7_code 19 = .ok (.invokevirtual 24, 3) := by decide +kernel
theorem dL_cashOwnedBy_22 : decode prog_5_method_7_code 22 = .ok (.ifCond .eq 15, 3) := by decide +kernel
theorem dL_cashOwnedBy_25 : decode prog_5_method_7_code 25 = .ok (.iload_n 2, 1) := by decide +kernel
theorem dL_cashOwnedBy_26 : decode prog_5_method_7_code 26 = .ok (.aload_n 0, 1) := by decide +kernel
theorem dL_cashOwnedBy_27 : decode prog_5_method_7_code 27 = .ok (.getfield 11, 3) := by decide +kernel
theorem dL_cashOwnedBy_30 : decode prog_5_method_7_code 30 = .ok (.iload_n 3, 1) := by decide +kernel
theorem dL_cashOwnedBy_31 : decode prog_5_method_7_code 31 = .ok (.aaload, 1) := by decide +kernel
theorem dL_cashOwnedBy_32 : decode prog_5_method_7_code 32 = .ok (.getfield 31, 3) := by decide +kernel
theorem dL_cashOwnedBy_35 : decode prog_5_method_7_code 35 = .ok (.iadd, 1) := by decide +kernel
theorem dL_cashOwnedBy_36 : decode prog_5_method_7_code 36 = .ok (.istore_n 2, 1) := by decide +kernel
theorem dL_cashOwnedBy_37 : decode prog_5_method_7_code 37 = .ok (.iinc 3 1, 3) := by decide +kernel
theorem dL_cashOwnedBy_40 : decode prog_5_method_7_code 40 = .ok (.goto (-36), 3) := by decide +kernel
theorem dL_cashOwnedBy_43 : decode prog_5_method_7_code 43 = .ok (.iload_n 2, 1) := by decide +kernel
theorem dL_cashOwnedBy_44 : decode prog_5_method_7_code 44 = .ok (.ireturn, 1) := by decide +kernel
theorem dT_needsNobodyElse_0 : decode prog_6_method_7_code 0 = .ok (.aload_n 0, 1) := by decide +kernel
theorem dT_needsNobodyElse_1 : decode prog_6_method_7_code 1 = .ok (.getfield 79, 3) := by decide +kernel
theorem dT_needsNobodyElse_4 : decode prog_6_method_7_code 4 = .ok (.aload_n 0, 1) := by decide +kernel
theorem dT_needsNobodyElse_5 : decode prog_6_method_7_code 5 = .ok (.getfield 15, 3) := by decide +kernel
theorem dT_needsNobodyElse_8 : decode prog_6_method_7_code 8 = .ok (.invokestatic 46, 3) := by decide +kernel
theorem dT_needsNobodyElse_11 : decode prog_6_method_7_code 11 = .ok (.if_icmp .ne 7, 3) := by decide +kernel
theorem dT_needsNobodyElse_14 : decode prog_6_method_7_code 14 = .ok (.iconst 1, 1) := by decide +kernel
theorem dT_needsNobodyElse_15 : decode prog_6_method_7_code 15 = .ok (.goto 4, 3) := by decide +kernel
theorem dT_needsNobodyElse_18 : decode prog_6_method_7_code 18 = .ok (.iconst 0, 1) := by decide +kernel
theorem dT_needsNobodyElse_19 : decode prog_6_method_7_code 19 = .ok (.ireturn, 1) := by decide +kernel
theorem dH_sendNotarise_0 : decode prog_1_method_33_code 0 = .ok (.aload_n 0, 1) := by decide +kernel
theorem dH_sendNotarise_1 : decode prog_1_method_33_code 1 = .ok (.iconst 2, 1) := by decide +kernel
theorem dH_sendNotarise_2 : decode prog_1_method_33_code 2 = .ok (.aload_n 1, 1) := by decide +kernel
theorem dH_sendNotarise_3 : decode prog_1_method_33_code 3 = .ok (.aload_n 1, 1) := by decide +kernel
theorem dH_sendNotarise_4 : decode prog_1_method_33_code 4 = .ok (.getfield 71, 3) := by decide +kernel
theorem dH_sendNotarise_7 : decode prog_1_method_33_code 7 = .ok (.aload_n 1, 1) := by decide +kernel
theorem dH_sendNotarise_8 : decode prog_1_method_33_code 8 = .ok (.getfield 81, 3) := by decide +kernel
theorem dH_sendNotarise_11 : decode prog_1_method_33_code 11 = .ok (.iconst 0, 1) := by decide +kernel
theorem dH_sendNotarise_12 : decode prog_1_method_33_code 12 = .ok (.invokevirtual 264, 3) := by decide +kernel
theorem dH_sendNotarise_15 : decode prog_1_method_33_code 15 = .ok (.ireturn, 1) := by decide +kernel
theorem dH_send_0 : decode prog_1_method_32_code 0 = .ok (.aload_n 0, 1) := by decide +kernel
theorem dH_send_1 : decode prog_1_method_32_code 1 = .ok (.getfield 25, 3) := by decide +kernel
theorem dH_send_4 : decode prog_1_method_32_code 4 = .ok (.iload_n 1, 1) := by decide +kernel
theorem dH_send_5 : decode prog_1_method_32_code 5 = .ok (.iload_n 3, 1) := by decide +kernel
theorem dH_send_6 : decode prog_1_method_32_code 6 = .ok (.iload 4, 2) := by decide +kernel
theorem dH_send_8 : decode prog_1_method_32_code 8 = .ok (.aload_n 2, 1) := by decide +kernel
theorem dH_send_9 : decode prog_1_method_32_code 9 = .ok (.getfield 281, 3) := by decide +kernel
theorem dH_send_12 : decode prog_1_method_32_code 12 = .ok (.iload 5, 2) := by decide +kernel
theorem dH_send_14 : decode prog_1_method_32_code 14 = .ok (.invokestatic 304, 3) := by decide +kernel
theorem dH_send_17 : decode prog_1_method_32_code 17 = .ok (.invokevirtual 308, 3) := by decide +kernel
theorem dH_send_20 : decode prog_1_method_32_code 20 = .ok (.ifCond .eq 7, 3) := by decide +kernel
theorem dH_send_23 : decode prog_1_method_32_code 23 = .ok (.iconst 1, 1) := by decide +kernel
theorem dH_send_24 : decode prog_1_method_32_code 24 = .ok (.goto 4, 3) := by decide +kernel
theorem dH_send_27 : decode prog_1_method_32_code 27 = .ok (.iconst 0, 1) := by decide +kernel
theorem dH_send_28 : decode prog_1_method_32_code 28 = .ok (.ireturn, 1) := by decide +kernel
theorem dB_code_0 : decode prog_2_method_2_code 0 = .ok (.iload_n 0, 1) := by decide +kernel
theorem dB_code_1 : decode prog_2_method_2_code 1 = .ok (.bipush 8, 2) := by decide +kernel
theorem dB_code_3 : decode prog_2_method_2_code 3 = .ok (.iload_n 1, 1) := by decide +kernel
theorem dB_code_4 : decode prog_2_method_2_code 4 = .ok (.imul, 1) := by decide +kernel
theorem dB_code_5 : decode prog_2_method_2_code 5 = .ok (.iadd, 1) := by decide +kernel
theorem dB_code_6 : decode prog_2_method_2_code 6 = .ok (.bipush 64, 2) := by decide +kernel
theorem dB_code_8 : decode prog_2_method_2_code 8 = .ok (.iload_n 2, 1) := by decide +kernel
theorem dB_code_9 : decode prog_2_method_2_code 9 = .ok (.imul, 1) := by decide +kernel
theorem dB_code_10 : decode prog_2_method_2_code 10 = .ok (.iadd, 1) := by decide +kernel
theorem dB_code_11 : decode prog_2_method_2_code 11 = .ok (.sipush 512, 3) := by decide +kernel
theorem dB_code_14 : decode prog_2_method_2_code 14 = .ok (.iload_n 3, 1) := by decide +kernel
theorem dB_code_15 : decode prog_2_method_2_code 15 = .ok (.imul, 1) := by decide +kernel
theorem dB_code_16 : decode prog_2_method_2_code 16 = .ok (.iadd, 1) := by decide +kernel
theorem dB_code_17 : decode prog_2_method_2_code 17 = .ok (.sipush 16384, 3) := by decide +kernel
theorem dB_code_20 : decode prog_2_method_2_code 20 = .ok (.iload 4, 2) := by decide +kernel
theorem dB_code_22 : decode prog_2_method_2_code 22 = .ok (.imul, 1) := by decide +kernel
theorem dB_code_23 : decode prog_2_method_2_code 23 = .ok (.iadd, 1) := by decide +kernel
theorem dB_code_24 : decode prog_2_method_2_code 24 = .ok (.ireturn, 1) := by decide +kernel
theorem dB_post_0 : decode prog_2_method_9_code 0 = .ok (.aload_n 0, 1) := by decide +kernel
theorem dB_post_1 : decode prog_2_method_9_code 1 = .ok (.getfield 15, 3) := by decide +kernel
theorem dB_post_4 : decode prog_2_method_9_code 4 = .ok (.sipush 220, 3) := by decide +kernel
theorem dB_post_7 : decode prog_2_method_9_code 7 = .ok (.if_icmp .ge 11, 3) := by decide +kernel
theorem dB_post_10 : decode prog_2_method_9_code 10 = .ok (.aload_n 0, 1) := by decide +kernel
theorem dB_post_11 : decode prog_2_method_9_code 11 = .ok (.iload_n 1, 1) := by decide +kernel
theorem dB_post_12 : decode prog_2_method_9_code 12 = .ok (.invokevirtual 19, 3) := by decide +kernel
theorem dB_post_15 : decode prog_2_method_9_code 15 = .ok (.ifCond .eq 5, 3) := by decide +kernel
theorem dB_post_18 : decode prog_2_method_9_code 18 = .ok (.iconst 0, 1) := by decide +kernel
theorem dB_post_19 : decode prog_2_method_9_code 19 = .ok (.ireturn, 1) := by decide +kernel
theorem dB_post_20 : decode prog_2_method_9_code 20 = .ok (.aload_n 0, 1) := by decide +kernel
theorem dB_post_21 : decode prog_2_method_9_code 21 = .ok (.getfield 9, 3) := by decide +kernel
theorem dB_post_24 : decode prog_2_method_9_code 24 = .ok (.aload_n 0, 1) := by decide +kernel
theorem dB_post_25 : decode prog_2_method_9_code 25 = .ok (.getfield 15, 3) := by decide +kernel
theorem dB_post_28 : decode prog_2_method_9_code 28 = .ok (.iload_n 1, 1) := by decide +kernel
theorem dB_post_29 : decode prog_2_method_9_code 29 = .ok (.iastore, 1) := by decide +kernel
theorem dB_post_30 : decode prog_2_method_9_code 30 = .ok (.aload_n 0, 1) := by decide +kernel
theorem dB_post_31 : decode prog_2_method_9_code 31 = .ok (.dup, 1) := by decide +kernel
theorem dB_post_32 : decode prog_2_method_9_code 32 = .ok (.getfield 15, 3) := by decide +kernel
theorem dB_post_35 : decode prog_2_method_9_code 35 = .ok (.iconst 1, 1) := by decide +kernel
theorem dB_post_36 : decode prog_2_method_9_code 36 = .ok (.iadd, 1) := by decide +kernel
theorem dB_post_37 : decode prog_2_method_9_code 37 = .ok (.putfield 15, 3) := by decide +kernel
theorem dB_post_40 : decode prog_2_method_9_code 40 = .ok (.iconst 1, 1) := by decide +kernel
theorem dB_post_41 : decode prog_2_method_9_code 41 = .ok (.ireturn, 1) := by decide +kernel
theorem dB_isWaiting_0 : decode prog_2_method_10_code 0 = .ok (.iconst 0, 1) := by decide +kernel
theorem dB_isWaiting_1 : decode prog_2_method_10_code 1 = .ok (.istore_n 2, 1) := by decide +kernel
theorem dB_isWaiting_2 : decode prog_2_method_10_code 2 = .ok (.iload_n 2, 1) := by decide +kernel
theorem dB_isWaiting_3 : decode prog_2_method_10_code 3 = .ok (.aload_n 0, 1) := by decide +kernel
theorem dB_isWaiting_4 : decode prog_2_method_10_code 4 = .ok (.getfield 15, 3) := by decide +kernel
theorem dB_isWaiting_7 : decode prog_2_method_10_code 7 = .ok (.if_icmp .ge 21, 3) := by decide +kernel
theorem dB_isWaiting_10 : decode prog_2_method_10_code 10 = .ok (.aload_n 0, 1) := by decide +kernel
theorem dB_isWaiting_11 : decode prog_2_method_10_code 11 = .ok (.getfield 9, 3) := by decide +kernel
theorem dB_isWaiting_14 : decode prog_2_method_10_code 14 = .ok (.iload_n 2, 1) := by decide +kernel
theorem dB_isWaiting_15 : decode prog_2_method_10_code 15 = .ok (.iaload, 1) := by decide +kernel
theorem dB_isWaiting_16 : decode prog_2_method_10_code 16 = .ok (.iload_n 1, 1) := by decide +kernel
theorem dB_isWaiting_17 : decode prog_2_method_10_code 17 = .ok (.if_icmp .ne 5, 3) := by decide +kernel
theorem dB_isWaiting_20 : decode prog_2_method_10_code 20 = .ok (.iconst 1, 1) := by decide +kernel
theorem dB_isWaiting_21 : decode prog_2_method_10_code 21 = .ok (.ireturn, 1) := by decide +kernel
theorem dB_isWaiting_22 : decode prog_2_method_10_code 22 = .ok (.iinc 2 1, 3) := by decide +kernel
theorem dB_isWaiting_25 : decode prog_2_method_10_code 25 = .ok (.goto (-23), 3) := by decide +kernel
theorem dB_isWaiting_28 : decode prog_2_method_10_code 28 = .ok (.iconst 0, 1) := by decide +kernel
theorem dB_isWaiting_29 : decode prog_2_method_10_code 29 = .ok (.ireturn, 1) := by decide +kernel
theorem dH_sendToOthers_0 : decode prog_1_method_34_code 0 = .ok (.iconst 0, 1) := by decide +kernel
theorem dH_sendToOthers_1 : decode prog_1_method_34_code 1 = .ok (.istore 4, 2) := by decide +kernel
theorem dH_sendToOthers_3 : decode prog_1_method_34_code 3 = .ok (.iconst 0, 1) := by decide +kernel
theorem dH_sendToOthers_4 : decode prog_1_method_34_code 4 = .ok (.istore 5, 2) := by decide +kernel
theorem dH_sendToOthers_6 : decode prog_1_method_34_code 6 = .ok (.iload 5, 2) := by decide +kernel
theorem dH_sendToOthers_8 : decode prog_1_method_34_code 8 = .ok (.iconst 4, 1) := by decide +kernel
theorem dH_sendToOthers_9 : decode prog_1_method_34_code 9 = .ok (.if_icmp .ge 45, 3) := by decide +kernel
theorem dH_sendToOthers_12 : decode prog_1_method_34_code 12 = .ok (.iload_n 3, 1) := by decide +kernel
theorem dH_sendToOthers_13 : decode prog_1_method_34_code 13 = .ok (.iload 5, 2) := by decide +kernel
theorem dH_sendToOthers_15 : decode prog_1_method_34_code 15 = .ok (.invokestatic 77, 3) := by decide +kernel
theorem dH_sendToOthers_18 : decode prog_1_method_34_code 18 = .ok (.ifCond .eq 30, 3) := by decide +kernel
theorem dH_sendToOthers_21 : decode prog_1_method_34_code 21 = .ok (.iload 5, 2) := by decide +kernel
theorem dH_sendToOthers_23 : decode prog_1_method_34_code 23 = .ok (.aload_n 2, 1) := by decide +kernel
theorem dH_sendToOthers_24 : decode prog_1_method_34_code 24 = .ok (.getfield 71, 3) := by decide +kernel
theorem dH_sendToOthers_27 : decode prog_1_method_34_code 27 = .ok (.if_icmp .eq 21, 3) := by decide +kernel
theorem dH_sendToOthers_30 : decode prog_1_method_34_code 30 = .ok (.iload 4, 2) := by decide +kernel
theorem dH_sendToOthers_32 : decode prog_1_method_34_code 32 = .ok (.aload_n 0, 1) := by decide +kernel
theorem dH_sendToOthers_33 : decode prog_1_method_34_code 33 = .ok (.iload_n 1, 1) := by decide +kernel
theorem dH_sendToOthers_34 : decode prog_1_method_34_code 34 = .ok (.aload_n 2, 1) := by decide +kernel
theorem dH_sendToOthers_35 : decode prog_1_method_34_code 35 = .ok (.aload_n 2, 1) := by decide +kernel
theorem dH_sendToOthers_36 : decode prog_1_method_34_code 36 = .ok (.getfield 71, 3) := by decide +kernel
theorem dH_sendToOthers_39 : decode prog_1_method_34_code 39 = .ok (.iload 5, 2) := by decide +kernel
theorem dH_sendToOthers_41 : decode prog_1_method_34_code 41 = .ok (.iconst 0, 1) := by decide +kernel
theorem dH_sendToOthers_42 : decode prog_1_method_34_code 42 = .ok (.invokevirtual 264, 3) := by decide +kernel
theorem dH_sendToOthers_45 : decode prog_1_method_34_code 45 = .ok (.iadd, 1) := by decide +kernel
theorem dH_sendToOthers_46 : decode prog_1_method_34_code 46 = .ok (.istore 4, 2) := by decide +kernel
theorem dH_sendToOthers_48 : decode prog_1_method_34_code 48 = .ok (.iinc 5 1, 3) := by decide +kernel
theorem dH_sendToOthers_51 : decode prog_1_method_34_code 51 = .ok (.goto (-45), 3) := by decide +kernel
theorem dH_sendToOthers_54 : decode prog_1_method_34_code 54 = .ok (.iload 4, 2) := by decide +kernel
theorem dH_sendToOthers_56 : decode prog_1_method_34_code 56 = .ok (.ireturn, 1) := by decide +kernel
theorem dH_deliver_0 : decode prog_1_method_9_code 0 = .ok (.aload_n 0, 1) := by decide +kernel
theorem dH_deliver_1 : decode prog_1_method_9_code 1 = .ok (.getfield 25, 3) := by decide +kernel
theorem dH_deliver_4 : decode prog_1_method_9_code 4 = .ok (.iload_n 1, 1) := by decide +kernel
theorem dH_deliver_5 : decode prog_1_method_9_code 5 = .ok (.invokevirtual 163, 3) := by decide +kernel
theorem dH_deliver_8 : decode prog_1_method_9_code 8 = .ok (.ifCond .ne 5, 3) := by decide +kernel
theorem dH_deliver_11 : decode prog_1_method_9_code 11 = .ok (.iconst (-1), 1) := by decide +kernel
theorem dH_deliver_12 : decode prog_1_method_9_code 12 = .ok (.ireturn, 1) := by decide +kernel
theorem dH_deliver_13 : decode prog_1_method_9_code 13 = .ok (.aload_n 0, 1) := by decide +kernel
theorem dH_deliver_14 : decode prog_1_method_9_code 14 = .ok (.aload_n 0, 1) := by decide +kernel
theorem dH_deliver_15 : decode prog_1_method_9_code 15 = .ok (.getfield 25, 3) := by decide +kernel
theorem dH_deliver_18 : decode prog_1_method_9_code 18 = .ok (.getfield 166, 3) := by decide +kernel
theorem dH_deliver_21 : decode prog_1_method_9_code 21 = .ok (.iload_n 1, 1) := by decide +kernel
theorem dH_deliver_22 : decode prog_1_method_9_code 22 = .ok (.iaload, 1) := by decide +kernel
theorem dH_deliver_23 : decode prog_1_method_9_code 23 = .ok (.iload_n 2, 1) := by decide +kernel
theorem dH_deliver_24 : decode prog_1_method_9_code 24 = .ok (.invokevirtual 169, 3) := by decide +kernel
theorem dH_deliver_27 : decode prog_1_method_9_code 27 = .ok (.istore_n 3, 1) := by decide +kernel
theorem dH_deliver_28 : decode prog_1_method_9_code 28 = .ok (.iload_n 2, 1) := by decide +kernel
theorem dH_deliver_29 : decode prog_1_method_9_code 29 = .ok (.ifCond .ne 15, 3) := by decide +kernel
theorem dH_deliver_32 : decode prog_1_method_9_code 32 = .ok (.iload_n 3, 1) := by decide +kernel
theorem dH_deliver_33 : decode prog_1_method_9_code 33 = .ok (.ifCond .eq 11, 3) := by decide +kernel
theorem dH_deliver_36 : decode prog_1_method_9_code 36 = .ok (.aload_n 0, 1) := by decide +kernel
theorem dH_deliver_37 : decode prog_1_method_9_code 37 = .ok (.getfield 25, 3) := by decide +kernel
theorem dH_deliver_40 : decode prog_1_method_9_code 40 = .ok (.iload_n 1, 1) := by decide +kernel
theorem dH_deliver_41 : decode prog_1_method_9_code 41 = .ok (.invokevirtual 173, 3) := by decide +kernel
theorem dH_deliver_44 : decode prog_1_method_9_code 44 = .ok (.iload_n 3, 1) := by decide +kernel
theorem dH_deliver_45 : decode prog_1_method_9_code 45 = .ok (.ireturn, 1) := by decide +kernel
theorem dB_holdsPlace_0 : decode prog_2_method_8_code 0 = .ok (.iload_n 1, 1) := by decide +kernel
theorem dB_holdsPlace_1 : decode prog_2_method_8_code 1 = .ok (.ifCond .lt 15, 3) := by decide +kernel
theorem dB_holdsPlace_4 : decode prog_2_method_8_code 4 = .ok (.iload_n 1, 1) := by decide +kernel
theorem dB_holdsPlace_5 : decode prog_2_method_8_code 5 = .ok (.aload_n 0, 1) := by decide +kernel
theorem dB_holdsPlace_6 : decode prog_2_method_8_code 6 = .ok (.getfield 15, 3) := by decide +kernel
theorem dB_holdsPlace_9 : decode prog_2_method_8_code 9 = .ok (.if_icmp .ge 7, 3) := by decide +kernel
theorem dB_holdsPlace_12 : decode prog_2_method_8_code 12 = .ok (.iconst 1, 1) := by decide +kernel
theorem dB_holdsPlace_13 : decode prog_2_method_8_code 13 = .ok (.goto 4, 3) := by decide +kernel
theorem dB_holdsPlace_16 : decode prog_2_method_8_code 16 = .ok (.iconst 0, 1) := by decide +kernel
theorem dB_holdsPlace_17 : decode prog_2_method_8_code 17 = .ok (.ireturn, 1) := by decide +kernel
theorem dH_receive_0 : decode prog_1_method_22_code 0 = .ok (.aload_n 0, 1) := by decide +kernel
theorem dH_receive_1 : decode prog_1_method_22_code 1 = .ok (.iload_n 1, 1) := by decide +kernel
theorem dH_receive_2 : decode prog_1_method_22_code 2 = .ok (.invokestatic 219, 3) := by decide +kernel
theorem dH_receive_5 : decode prog_1_method_22_code 5 = .ok (.invokevirtual 60, 3) := by decide +kernel
theorem dH_receive_8 : decode prog_1_method_22_code 8 = .ok (.astore_n 3, 1) := by decide +kernel
theorem dH_receive_9 : decode prog_1_method_22_code 9 = .ok (.iload_n 1, 1) := by decide +kernel
theorem dH_receive_10 : decode prog_1_method_22_code 10 = .ok (.invokestatic 222, 3) := by decide +kernel
theorem dH_receive_13 : decode prog_1_method_22_code 13 = .ok (.istore 4, 2) := by decide +kernel
theorem dH_receive_15 : decode prog_1_method_22_code 15 = .ok (.iload_n 1, 1) := by decide +kernel
theorem dH_receive_16 : decode prog_1_method_22_code 16 = .ok (.invokestatic 225, 3) := by decide +kernel
theorem dH_receive_19 : decode prog_1_method_22_code 19 = .ok (.istore 5, 2) := by decide +kernel
theorem dH_receive_21 : decode prog_1_method_22_code 21 = .ok (.aload_n 3, 1) := by decide +kernel
theorem dH_receive_22 : decode prog_1_method_22_code 22 = .ok (.ifnonnull 5, 3) := by decide +kernel
theorem dH_receive_25 : decode prog_1_method_22_code 25 = .ok (.iconst (-1), 1) := by decide +kernel
theorem dH_receive_26 : decode prog_1_method_22_code 26 = .ok (.ireturn, 1) := by decide +kernel
theorem dH_receive_27 : decode prog_1_method_22_code 27 = .ok (.iload_n 1, 1) := by decide +kernel
theorem dH_receive_28 : decode prog_1_method_22_code 28 = .ok (.invokestatic 228, 3) := by decide +kernel
theorem dH_receive_31 : decode prog_1_method_22_code 31 = .ok (.tableswitch 66 0 3 #[29, 38, 51, 57], 29) := by decide +kernel
theorem dH_receive_60 : decode prog_1_method_22_code 60 = .ok (.aload_n 0, 1) := by decide +kernel
theorem dH_receive_61 : decode prog_1_method_22_code 61 = .ok (.aload_n 3, 1) := by decide +kernel
theorem dH_receive_62 : decode prog_1_method_22_code 62 = .ok (.iload 4, 2) := by decide +kernel
theorem dH_receive_64 : decode prog_1_method_22_code 64 = .ok (.iload_n 2, 1) := by decide +kernel
theorem dH_receive_65 : decode prog_1_method_22_code 65 = .ok (.invokevirtual 231, 3) := by decide +kernel
theorem dH_receive_68 : decode prog_1_method_22_code 68 = .ok (.ireturn, 1) := by decide +kernel
theorem dH_receive_69 : decode prog_1_method_22_code 69 = .ok (.aload_n 0, 1) := by decide +kernel
theorem dH_receive_70 : decode prog_1_method_22_code 70 = .ok (.aload_n 3, 1) := by decide +kernel
theorem dH_receive_71 : decode prog_1_method_22_code 71 = .ok (.iload_n 1, 1) := by decide +kernel
theorem dH_receive_72 : decode prog_1_method_22_code 72 = .ok (.invokestatic 235, 3) := by decide +kernel
theorem dH_receive_75 : decode prog_1_method_22_code 75 = .ok (.iload 5, 2) := by decide +kernel
theorem dH_receive_77 : decode prog_1_method_22_code 77 = .ok (.iload_n 2, 1) := by decide +kernel
theorem dH_receive_78 : decode prog_1_method_22_code 78 = .ok (.invokevirtual 238, 3) := by decide +kernel
theorem dH_receive_81 : decode prog_1_method_22_code 81 = .ok (.ireturn, 1) := by decide +kernel
theorem dH_receive_82 : decode prog_1_method_22_code 82 = .ok (.aload_n 0, 1) := by decide +kernel
theorem dH_receive_83 : decode prog_1_method_22_code 83 = .ok (.aload_n 3, 1) := by decide +kernel
theorem dH_receive_84 : decode prog_1_method_22_code 84 = .ok (.invokevirtual 242, 3) := by decide +kernel
theorem dH_receive_87 : decode prog_1_method_22_code 87 = .ok (.ireturn, 1) := by decide +kernel
theorem dH_receive_88 : decode prog_1_method_22_code 88 = .ok (.aload_n 0, 1) := by decide +kernel
theorem dH_receive_89 : decode prog_1_method_22_code 89 = .ok (.aload_n 3, 1) := by decide +kernel
theorem dH_receive_90 : decode prog_1_method_22_code 90 = .ok (.iload 5, 2) := by decide +kernel
theorem dH_receive_92 : decode prog_1_method_22_code 92 = .ok (.iload_n 2, 1) := by decide +kernel
theorem dH_receive_93 : decode prog_1_method_22_code 93 = .ok (.invokevirtual 245, 3) := by decide +kernel
theorem dH_receive_96 : decode prog_1_method_22_code 96 = .ok (.ireturn, 1) := by decide +kernel
theorem dH_receive_97 : decode prog_1_method_22_code 97 = .ok (.aload_n 0, 1) := by decide +kernel
theorem dH_receive_98 : decode prog_1_method_22_code 98 = .ok (.aload_n 3, 1) := by decide +kernel
theorem dH_receive_99 : decode prog_1_method_22_code 99 = .ok (.iload 4, 2) := by decide +kernel
theorem dH_receive_101 : decode prog_1_method_22_code 101 = .ok (.iload_n 2, 1) := by decide +kernel
theorem dH_receive_102 : decode prog_1_method_22_code 102 = .ok (.invokevirtual 248, 3) := by decide +kernel
theorem dH_receive_105 : decode prog_1_method_22_code 105 = .ok (.ireturn, 1) := by decide +kernel
theorem dB_transactionOf_0 : decode prog_2_method_6_code 0 = .ok (.iload_n 0, 1) := by decide +kernel
theorem dB_transactionOf_1 : decode prog_2_method_6_code 1 = .ok (.bipush 9, 2) := by decide +kernel
theorem dB_transactionOf_3 : decode prog_2_method_6_code 3 = .ok (.ishr, 1) := by decide +kernel
theorem dB_transactionOf_4 : decode prog_2_method_6_code 4 = .ok (.bipush 31, 2) := by decide +kernel
theorem dB_transactionOf_6 : decode prog_2_method_6_code 6 = .ok (.iand, 1) := by decide +kernel
theorem dB_transactionOf_7 : decode prog_2_method_6_code 7 = .ok (.ireturn, 1) := by decide +kernel
theorem dB_receiverOf_0 : decode prog_2_method_5_code 0 = .ok (.iload_n 0, 1) := by decide +kernel
theorem dB_receiverOf_1 : decode prog_2_method_5_code 1 = .ok (.bipush 6, 2) := by decide +kernel
theorem dB_receiverOf_3 : decode prog_2_method_5_code 3 = .ok (.ishr, 1) := by decide +kernel
theorem dB_receiverOf_4 : decode prog_2_method_5_code 4 = .ok (.bipush 7, 2) := by decide +kernel
theorem dB_receiverOf_6 : decode prog_2_method_5_code 6 = .ok (.iand, 1) := by decide +kernel
theorem dB_receiverOf_7 : decode prog_2_method_5_code 7 = .ok (.ireturn, 1) := by decide +kernel
theorem dB_contentOf_0 : decode prog_2_method_7_code 0 = .ok (.iload_n 0, 1) := by decide +kernel
theorem dB_contentOf_1 : decode prog_2_method_7_code 1 = .ok (.bipush 14, 2) := by decide +kernel
theorem dB_contentOf_3 : decode prog_2_method_7_code 3 = .ok (.ishr, 1) := by decide +kernel
theorem dB_contentOf_4 : decode prog_2_method_7_code 4 = .ok (.ireturn, 1) := by decide +kernel
theorem dB_kindOf_0 : decode prog_2_method_3_code 0 = .ok (.iload_n 0, 1) := by decide +kernel
theorem dB_kindOf_1 : decode prog_2_method_3_code 1 = .ok (.bipush 7, 2) := by decide +kernel
theorem dB_kindOf_3 : decode prog_2_method_3_code 3 = .ok (.iand, 1) := by decide +kernel
theorem dB_kindOf_4 : decode prog_2_method_3_code 4 = .ok (.ireturn, 1) := by decide +kernel
theorem dH_receiveAsk_0 : decode prog_1_method_23_code 0 = .ok (.iload_n 2, 1) := by decide +kernel
theorem dH_receiveAsk_1 : decode prog_1_method_23_code 1 = .ok (.invokestatic 45, 3) := by decide +kernel
theorem dH_receiveAsk_4 : decode prog_1_method_23_code 4 = .ok (.ifCond .ne 5, 3) := by decide +kernel
theorem dH_receiveAsk_7 : decode prog_1_method_23_code 7 = .ok (.iconst (-1), 1) := by decide +kernel
theorem dH_receiveAsk_8 : decode prog_1_method_23_code 8 = .ok (.ireturn, 1) := by decide +kernel
theorem dH_receiveAsk_9 : decode prog_1_method_23_code 9 = .ok (.aload_n 0, 1) := by decide +kernel
theorem dH_receiveAsk_10 : decode prog_1_method_23_code 10 = .ok (.getfield 17, 3) := by decide +kernel
theorem dH_receiveAsk_13 : decode prog_1_method_23_code 13 = .ok (.iload_n 2, 1) := by decide +kernel
theorem dH_receiveAsk_14 : decode prog_1_method_23_code 14 = .ok (.aaload, 1) := by decide +kernel
theorem dH_receiveAsk_15 : decode prog_1_method_23_code 15 = .ok (.astore 4, 2) := by decide +kernel
theorem dH_receiveAsk_17 : decode prog_1_method_23_code 17 = .ok (.aload_n 1, 1) := by decide +kernel
theorem dH_receiveAsk_18 : decode prog_1_method_23_code 18 = .ok (.iload_n 2, 1) := by decide +kernel
theorem dH_receiveAsk_19 : decode prog_1_method_23_code 19 = .ok (.aload 4, 2) := by decide +kernel
theorem dH_receiveAsk_21 : decode prog_1_method_23_code 21 = .ok (.getfield 183, 3) := by decide +kernel
theorem dH_receiveAsk_24 : decode prog_1_method_23_code 24 = .ok (.aload_n 1, 1) := by decide +kernel
theorem dH_receiveAsk_25 : decode prog_1_method_23_code 25 = .ok (.getfield 71, 3) := by decide +kernel
theorem dH_receiveAsk_28 : decode prog_1_method_23_code 28 = .ok (.invokestatic 77, 3) := by decide +kernel
theorem dH_receiveAsk_31 : decode prog_1_method_23_code 31 = .ok (.invokevirtual 251, 3) := by decide +kernel
theorem dH_receiveAsk_34 : decode prog_1_method_23_code 34 = .ok (.aload_n 1, 1) := by decide +kernel
theorem dH_receiveAsk_35 : decode prog_1_method_23_code 35 = .ok (.getfield 255, 3) := by decide +kernel
theorem dH_receiveAsk_38 : decode prog_1_method_23_code 38 = .ok (.iload_n 2, 1) := by decide +kernel
theorem dH_receiveAsk_39 : decode prog_1_method_23_code 39 = .ok (.invokestatic 77, 3) := by decide +kernel
theorem dH_receiveAsk_42 : decode prog_1_method_23_code 42 = .ok (.istore 5, 2) := by decide +kernel
theorem dH_receiveAsk_44 : decode prog_1_method_23_code 44 = .ok (.iload 5, 2) := by decide +kernel
theorem dH_receiveAsk_46 : decode prog_1_method_23_code 46 = .ok (.ifCond .eq 16, 3) := by decide +kernel
theorem dH_receiveAsk_49 : decode prog_1_method_23_code 49 = .ok (.iload_n 3, 1) := by decide +kernel
theorem dH_receiveAsk_50 : decode prog_1_method_23_code 50 = .ok (.ifCond .ne 12, 3) := by decide +kernel
theorem dH_receiveAsk_53 : decode prog_1_method_23_code 53 = .ok (.aload 4, 2) := by decide +kernel
theorem dH_receiveAsk_55 : decode prog_1_method_23_code 55 = .ok (.aload_n 1, 1) := by decide +kernel
theorem dH_receiveAsk_56 : decode prog_1_method_23_code 56 = .ok (.getfield 258, 3) := by decide +kernel
theorem dH_receiveAsk_59 : decode prog_1_method_23_code 59 = .ok (.invokevirtual 261, 3) := by decide +kernel
theorem dH_receiveAsk_62 : decode prog_1_method_23_code 62 = .ok (.aload_n 0, 1) := by decide +kernel
theorem dH_receiveAsk_63 : decode prog_1_method_23_code 63 = .ok (.iconst 1, 1) := by decide +kernel
theorem dH_receiveAsk_64 : decode prog_1_method_23_code 64 = .ok (.aload_n 1, 1) := by decide +kernel
theorem dH_receiveAsk_65 : decode prog_1_method_23_code 65 = .ok (.iload_n 2, 1) := by decide +kernel
theorem dH_receiveAsk_66 : decode prog_1_method_23_code 66 = .ok (.aload_n 1, 1) := by decide +kernel
theorem dH_receiveAsk_67 : decode prog_1_method_23_code 67 = .ok (.getfield 71, 3) := by decide +kernel
theorem dH_receiveAsk_70 : decode prog_1_method_23_code 70 = .ok (.iload 5, 2) := by decide +kernel
theorem dH_receiveAsk_72 : decode prog_1_method_23_code 72 = .ok (.ifCond .eq 7, 3) := by decide +kernel
theorem dH_receiveAsk_75 : decode prog_1_method_23_code 75 = .ok (.iconst 1, 1) := by decide +kernel
theorem dH_receiveAsk_76 : decode prog_1_method_23_code 76 = .ok (.goto 4, 3) := by decide +kernel
theorem dH_receiveAsk_79 : decode prog_1_method_23_code 79 = .ok (.iconst 0, 1) := by decide +kernel
theorem dH_receiveAsk_80 : decode prog_1_method_23_code 80 = .ok (.invokevirtual 264, 3) := by decide +kernel
theorem dH_receiveAsk_83 : decode prog_1_method_23_code 83 = .ok (.pop, 1) := by decide +kernel
theorem dH_receiveAsk_84 : decode prog_1_method_23_code 84 = .ok (.iconst 2, 1) := by decide +kernel
theorem dH_receiveAsk_85 : decode prog_1_method_23_code 85 = .ok (.ireturn, 1) := by decide +kernel
theorem dT_decide_0 : decode prog_6_method_4_code 0 = .ok (.aload_n 0, 1) := by decide +kernel
theorem dT_decide_1 : decode prog_6_method_4_code 1 = .ok (.getfield 62, 3) := by decide +kernel
theorem dT_decide_4 : decode prog_6_method_4_code 4 = .ok (.iload_n 1, 1) := by decide +kernel
theorem dT_decide_5 : decode prog_6_method_4_code 5 = .ok (.invokestatic 65, 3) := by decide +kernel
theorem dT_decide_8 : decode prog_6_method_4_code 8 = .ok (.ifCond .eq 4, 3) := by decide +kernel
theorem dT_decide_11 : decode prog_6_method_4_code 11 = .ok (.return_, 1) := by decide +kernel
theorem dT_decide_12 : decode prog_6_method_4_code 12 = .ok (.aload_n 0, 1) := by decide +kernel
theorem dT_decide_13 : decode prog_6_method_4_code 13 = .ok (.dup, 1) := by decide +kernel
theorem dT_decide_14 : decode prog_6_method_4_code 14 = .ok (.getfield 62, 3) := by decide +kernel
theorem dT_decide_17 : decode prog_6_method_4_code 17 = .ok (.iload_n 1, 1) := by decide +kernel
theorem dT_decide_18 : decode prog_6_method_4_code 18 = .ok (.invokestatic 46, 3) := by decide +kernel
theorem dT_decide_21 : decode prog_6_method_4_code 21 = .ok (.ior, 1) := by decide +kernel
theorem dT_decide_22 : decode prog_6_method_4_code 22 = .ok (.putfield 62, 3) := by decide +kernel
theorem dT_decide_25 : decode prog_6_method_4_code 25 = .ok (.iload_n 2, 1) := by decide +kernel
theorem dT_decide_26 : decode prog_6_method_4_code 26 = .ok (.ifCond .eq 16, 3) := by decide +kernel
theorem dT_decide_29 : decode prog_6_method_4_code 29 = .ok (.aload_n 0, 1) := by decide +kernel
theorem dT_decide_30 : decode prog_6_method_4_code 30 = .ok (.dup, 1) := by decide +kernel
theorem dT_decide_31 : decode prog_6_method_4_code 31 = .ok (.getfield 69, 3) := by decide +kernel
theorem dT_decide_34 : decode prog_6_method_4_code 34 = .ok (.iload_n 1, 1) := by decide +kernel
theorem dT_decide_35 : decode prog_6_method_4_code 35 = .ok (.invokestatic 46, 3) := by decide +kernel
theorem dT_decide_38 : decode prog_6_method_4_code 38 = .ok (.ior, 1) := by decide +kernel
theorem dT_decide_39 : decode prog_6_method_4_code 39 = .ok (.putfield 69, 3) := by decide +kernel
theorem dT_decide_42 : decode prog_6_method_4_code 42 = .ok (.return_, 1) := by decide +kernel
theorem dN_fetch_0 : decode prog_3_method_2_code 0 = .ok (.aload_n 0, 1) := by decide +kernel
theorem dN_fetch_1 : decode prog_3_method_2_code 1 = .ok (.dup, 1) := by decide +kernel
theorem dN_fetch_2 : decode prog_3_method_2_code 2 = .ok (.getfield 19, 3) := by decide +kernel
theorem dN_fetch_5 : decode prog_3_method_2_code 5 = .ok (.iload_n 1, 1) := by decide +kernel
theorem dN_fetch_6 : decode prog_3_method_2_code 6 = .ok (.aload_n 0, 1) := by decide +kernel
theorem dN_fetch_7 : decode prog_3_method_2_code 7 = .ok (.getfield 22, 3) := by decide +kernel
theorem dN_fetch_10 : decode prog_3_method_2_code 10 = .ok (.iconst (-1), 1) := by decide +kernel
theorem dN_fetch_11 : decode prog_3_method_2_code 11 = .ok (.ixor, 1) := by decide +kernel
theorem dN_fetch_12 : decode prog_3_method_2_code 12 = .ok (.iand, 1) := by decide +kernel
theorem dN_fetch_13 : decode prog_3_method_2_code 13 = .ok (.invokestatic 25, 3) := by decide +kernel
theorem dN_fetch_16 : decode prog_3_method_2_code 16 = .ok (.iadd, 1) := by decide +kernel
theorem dN_fetch_17 : decode prog_3_method_2_code 17 = .ok (.putfield 19, 3) := by decide +kernel
theorem dN_fetch_20 : decode prog_3_method_2_code 20 = .ok (.aload_n 0, 1) := by decide +kernel
theorem dN_fetch_21 : decode prog_3_method_2_code 21 = .ok (.dup, 1) := by decide +kernel
theorem dN_fetch_22 : decode prog_3_method_2_code 22 = .ok (.getfield 22, 3) := by decide +kernel
theorem dN_fetch_25 : decode prog_3_method_2_code 25 = .ok (.iload_n 1, 1) := by decide +kernel
theorem dN_fetch_26 : decode prog_3_method_2_code 26 = .ok (.ior, 1) := by decide +kernel
theorem dN_fetch_27 : decode prog_3_method_2_code 27 = .ok (.putfield 22, 3) := by decide +kernel
theorem dN_fetch_30 : decode prog_3_method_2_code 30 = .ok (.return_, 1) := by decide +kernel
theorem dB_senderOf_0 : decode prog_2_method_4_code 0 = .ok (.iload_n 0, 1) := by decide +kernel
theorem dB_senderOf_1 : decode prog_2_method_4_code 1 = .ok (.iconst 3, 1) := by decide +kernel
theorem dB_senderOf_2 : decode prog_2_method_4_code 2 = .ok (.ishr, 1) := by decide +kernel
theorem dB_senderOf_3 : decode prog_2_method_4_code 3 = .ok (.bipush 7, 2) := by decide +kernel
theorem dB_senderOf_5 : decode prog_2_method_4_code 5 = .ok (.iand, 1) := by decide +kernel
theorem dB_senderOf_6 : decode prog_2_method_4_code 6 = .ok (.ireturn, 1) := by decide +kernel
theorem dH_receiveReply_0 : decode prog_1_method_24_code 0 = .ok (.aload_n 1, 1) := by decide +kernel
theorem dH_receiveReply_1 : decode prog_1_method_24_code 1 = .ok (.getfield 68, 3) := by decide +kernel
theorem dH_receiveReply_4 : decode prog_1_method_24_code 4 = .ok (.iconst 1, 1) := by decide +kernel
theorem dH_receiveReply_5 : decode prog_1_method_24_code 5 = .ok (.if_icmp .ne 14, 3) := by decide +kernel
theorem dH_receiveReply_8 : decode prog_1_method_24_code 8 = .ok (.aload_n 1, 1) := by decide +kernel
theorem dH_receiveReply_9 : decode prog_1_method_24_code 9 = .ok (.getfield 193, 3) := by decide +kernel
theorem dH_receiveReply_12 : decode prog_1_method_24_code 12 = .ok (.iload_n 2, 1) := by decide +kernel
theorem dH_receiveReply_13 : decode prog_1_method_24_code 13 = .ok (.invokestatic 77, 3) := by decide +kernel
theorem dH_receiveReply_16 : decode prog_1_method_24_code 16 = .ok (.ifCond .eq 5, 3) := by decide +kernel
theorem dH_receiveReply_19 : decode prog_1_method_24_code 19 = .ok (.iconst 1, 1) := by decide +kernel
theorem dH_receiveReply_20 : decode prog_1_method_24_code 20 = .ok (.ireturn, 1) := by decide +kernel
theorem dH_receiveReply_21 : decode prog_1_method_24_code 21 = .ok (.iload_n 3, 1) := by decide +kernel
theorem dH_receiveReply_22 : decode prog_1_method_24_code 22 = .ok (.ifCond .ne 15, 3) := by decide +kernel
theorem dH_receiveReply_25 : decode prog_1_method_24_code 25 = .ok (.iload 4, 2) := by decide +kernel
theorem dH_receiveReply_27 : decode prog_1_method_24_code 27 = .ok (.ifCond .ne 8, 3) := by decide +kernel
theorem dH_receiveReply_30 : decode prog_1_method_24_code 30 = .ok (.aload_n 1, 1) := by decide +kernel
theorem dH_receiveReply_31 : decode prog_1_method_24_code 31 = .ok (.iconst 4, 1) := by decide +kernel
theorem dH_receiveReply_32 : decode prog_1_method_24_code 32 = .ok (.putfield 68, 3) := by decide +kernel
theorem dH_receiveReply_35 : decode prog_1_method_24_code 35 = .ok (.iconst 2, 1) := by decide +kernel
theorem dH_receiveReply_36 : decode prog_1_method_24_code 36 = .ok (.ireturn, 1) := by decide +kernel
theorem dH_receiveReply_37 : decode prog_1_method_24_code 37 = .ok (.aload_n 1, 1) := by decide +kernel
theorem dH_receiveReply_38 : decode prog_1_method_24_code 38 = .ok (.getfield 193, 3) := by decide +kernel
theorem dH_receiveReply_41 : decode prog_1_method_24_code 41 = .ok (.iload_n 2, 1) := by decide +kernel
theorem dH_receiveReply_42 : decode prog_1_method_24_code 42 = .ok (.invokestatic 186, 3) := by decide +kernel
theorem dH_receiveReply_45 : decode prog_1_method_24_code 45 = .ok (.ior, 1) := by decide +kernel
theorem dH_receiveReply_46 : decode prog_1_method_24_code 46 = .ok (.istore 5, 2) := by decide +kernel
theorem dH_receiveReply_48 : decode prog_1_method_24_code 48 = .ok (.aload_n 1, 1) := by decide +kernel
theorem dH_receiveReply_49 : decode prog_1_method_24_code 49 = .ok (.getfield 156, 3) := by decide +kernel
theorem dH_receiveReply_52 : decode prog_1_method_24_code 52 = .ok (.iload 5, 2) := by decide +kernel
theorem dH_receiveReply_54 : decode prog_1_method_24_code 54 = .ok (.iconst (-1), 1) := by decide +kernel
theorem dH_receiveReply_55 : decode prog_1_method_24_code 55 = .ok (.ixor, 1) := by decide +kernel
theorem dH_receiveReply_56 : decode prog_1_method_24_code 56 = .ok (.iand, 1) := by decide +kernel
theorem dH_receiveReply_57 : decode prog_1_method_24_code 57 = .ok (.ifCond .ne 7, 3) := by decide +kernel
theorem dH_receiveReply_60 : decode prog_1_method_24_code 60 = .ok (.iconst 1, 1) := by decide +kernel
theorem dH_receiveReply_61 : decode prog_1_method_24_code 61 = .ok (.goto 4, 3) := by decide +kernel
theorem dH_receiveReply_64 : decode prog_1_method_24_code 64 = .ok (.iconst 0, 1) := by decide +kernel
theorem dH_receiveReply_65 : decode prog_1_method_24_code 65 = .ok (.istore 6, 2) := by decide +kernel
theorem dH_receiveReply_67 : decode prog_1_method_24_code 67 = .ok (.iload 6, 2) := by decide +kernel
theorem dH_receiveReply_69 : decode prog_1_method_24_code 69 = .ok (.ifCond .eq 9, 3) := by decide +kernel
theorem dH_receiveReply_72 : decode prog_1_method_24_code 72 = .ok (.aload_n 0, 1) := by decide +kernel
theorem dH_receiveReply_73 : decode prog_1_method_24_code 73 = .ok (.aload_n 1, 1) := by decide +kernel
theorem dH_receiveReply_74 : decode prog_1_method_24_code 74 = .ok (.invokevirtual 152, 3) := by decide +kernel
theorem dH_receiveReply_77 : decode prog_1_method_24_code 77 = .ok (.pop, 1) := by decide +kernel
theorem dH_receiveReply_78 : decode prog_1_method_24_code 78 = .ok (.iload 4, 2) := by decide +kernel
theorem dH_receiveReply_80 : decode prog_1_method_24_code 80 = .ok (.ifCond .ne 23, 3) := by decide +kernel
theorem dH_receiveReply_83 : decode prog_1_method_24_code 83 = .ok (.aload_n 1, 1) := by decide +kernel
theorem dH_receiveReply_84 : decode prog_1_method_24_code 84 = .ok (.iload 5, 2) := by decide +kernel
theorem dH_receiveReply_86 : decode prog_1_method_24_code 86 = .ok (.putfield 193, 3) := by decide +kernel
theorem dH_receiveReply_89 : decode prog_1_method_24_code 89 = .ok (.aload_n 1, 1) := by decide +kernel
theorem dH_receiveReply_90 : decode prog_1_method_24_code 90 = .ok (.iload 6, 2) := by decide +kernel
theorem dH_receiveReply_92 : decode prog_1_method_24_code 92 = .ok (.ifCond .eq 7, 3) := by decide +kernel
theorem dH_receiveReply_95 : decode prog_1_method_24_code 95 = .ok (.iconst 2, 1) := by decide +kernel
theorem dH_receiveReply_96 : decode prog_1_method_24_code 96 = .ok (.goto 4, 3) := by decide +kernel
theorem dH_receiveReply_99 : decode prog_1_method_24_code 99 = .ok (.iconst 1, 1) := by decide +kernel
theorem dH_receiveReply_100 : decode prog_1_method_24_code 100 = .ok (.putfield 68, 3) := by decide +kernel
theorem dH_receiveReply_103 : decode prog_1_method_24_code 103 = .ok (.iconst 2, 1) := by decide +kernel
theorem dH_receiveReply_104 : decode prog_1_method_24_code 104 = .ok (.ireturn, 1) := by decide +kernel
theorem dH_receiveNotarise_0 : decode prog_1_method_25_code 0 = .ok (.aload_n 1, 1) := by decide +kernel
theorem dH_receiveNotarise_1 : decode prog_1_method_25_code 1 = .ok (.getfield 196, 3) := by decide +kernel
theorem dH_receiveNotarise_4 : decode prog_1_method_25_code 4 = .ok (.ifCond .ne 25, 3) := by decide +kernel
theorem dH_receiveNotarise_7 : decode prog_1_method_25_code 7 = .ok (.aload_n 1, 1) := by decide +kernel
theorem dH_receiveNotarise_8 : decode prog_1_method_25_code 8 = .ok (.aload_n 0, 1) := by decide +kernel
theorem dH_receiveNotarise_9 : decode prog_1_method_25_code 9 = .ok (.aload_n 1, 1) := by decide +kernel
theorem dH_receiveNotarise_10 : decode prog_1_method_25_code 10 = .ok (.invokevirtual 268, 3) := by decide +kernel
theorem dH_receiveNotarise_13 : decode prog_1_method_25_code 13 = .ok (.putfield 196, 3) := by decide +kernel
theorem dH_receiveNotarise_16 : decode prog_1_method_25_code 16 = .ok (.aload_n 1, 1) := by decide +kernel
theorem dH_receiveNotarise_17 : decode prog_1_method_25_code 17 = .ok (.getfield 196, 3) := by decide +kernel
theorem dH_receiveNotarise_20 : decode prog_1_method_25_code 20 = .ok (.iconst 1, 1) := by decide +kernel
theorem dH_receiveNotarise_21 : decode prog_1_method_25_code 21 = .ok (.if_icmp .ne 8, 3) := by decide +kernel
theorem dH_receiveNotarise_24 : decode prog_1_method_25_code 24 = .ok (.aload_n 0, 1) := by decide +kernel
theorem dH_receiveNotarise_25 : decode prog_1_method_25_code 25 = .ok (.aload_n 1, 1) := by decide +kernel
theorem dH_receiveNotarise_26 : decode prog_1_method_25_code 26 = .ok (.invokevirtual 271, 3) := by decide +kernel
theorem dH_receiveNotarise_29 : decode prog_1_method_25_code 29 = .ok (.aload_n 0, 1) := by decide +kernel
theorem dH_receiveNotarise_30 : decode prog_1_method_25_code 30 = .ok (.iconst 3, 1) := by decide +kernel
theorem dH_receiveNotarise_31 : decode prog_1_method_25_code 31 = .ok (.aload_n 1, 1) := by decide +kernel
theorem dH_receiveNotarise_32 : decode prog_1_method_25_code 32 = .ok (.aload_n 1, 1) := by decide +kernel
theorem dH_receiveNotarise_33 : decode prog_1_method_25_code 33 = .ok (.getfield 81, 3) := by decide +kernel
theorem dH_receiveNotarise_36 : decode prog_1_method_25_code 36 = .ok (.aload_n 1, 1) := by decide +kernel
theorem dH_receiveNotarise_37 : decode prog_1_method_25_code 37 = .ok (.getfield 71, 3) := by decide +kernel
theorem dH_receiveNotarise_40 : decode prog_1_method_25_code 40 = .ok (.aload_n 1, 1) := by decide +kernel
theorem dH_receiveNotarise_41 : decode prog_1_method_25_code 41 = .ok (.getfield 196, 3) := by decide +kernel
theorem dH_receiveNotarise_44 : decode prog_1_method_25_code 44 = .ok (.invokevirtual 264, 3) := by decide +kernel
theorem dH_receiveNotarise_47 : decode prog_1_method_25_code 47 = .ok (.pop, 1) := by decide +kernel
theorem dH_receiveNotarise_48 : decode prog_1_method_25_code 48 = .ok (.iconst 2, 1) := by decide +kernel
theorem dH_receiveNotarise_49 : decode prog_1_method_25_code 49 = .ok (.ireturn, 1) := by decide +kernel
theorem dH_judge_0 : decode prog_1_method_28_code 0 = .ok (.aload_n 0, 1) := by decide +kernel
theorem dH_judge_1 : decode prog_1_method_28_code 1 = .ok (.getfield 180, 3) := by decide +kernel
theorem dH_judge_4 : decode prog_1_method_28_code 4 = .ok (.aload_n 1, 1) := by decide +kernel
theorem dH_judge_5 : decode prog_1_method_28_code 5 = .ok (.getfield 289, 3) := by decide +kernel
theorem dH_judge_8 : decode prog_1_method_28_code 8 = .ok (.if_icmp .lt 14, 3) := by decide +kernel
theorem dH_judge_11 : decode prog_1_method_28_code 11 = .ok (.aload_n 0, 1) := by decide +kernel
theorem dH_judge_12 : decode prog_1_method_28_code 12 = .ok (.getfield 180, 3) := by decide +kernel
theorem dH_judge_15 : decode prog_1_method_28_code 15 = .ok (.aload_n 1, 1) := by decide +kernel
theorem dH_judge_16 : decode prog_1_method_28_code 16 = .ok (.getfield 292, 3) := by decide +kernel
theorem dH_judge_19 : decode prog_1_method_28_code 19 = .ok (.if_icmp .lt 5, 3) := by decide +kernel
theorem dH_judge_22 : decode prog_1_method_28_code 22 = .ok (.iconst 2, 1) := by decide +kernel
theorem dH_judge_23 : decode prog_1_method_28_code 23 = .ok (.ireturn, 1) := by decide +kernel
theorem dH_judge_24 : decode prog_1_method_28_code 24 = .ok (.aload_n 1, 1) := by decide +kernel
theorem dH_judge_25 : decode prog_1_method_28_code 25 = .ok (.getfield 81, 3) := by decide +kernel
theorem dH_judge_28 : decode prog_1_method_28_code 28 = .ok (.iconst 4, 1) := by decide +kernel
theorem dH_judge_29 : decode prog_1_method_28_code 29 = .ok (.if_icmp .ne 12, 3) := by decide +kernel
theorem dH_judge_32 : decode prog_1_method_28_code 32 = .ok (.aload_n 1, 1) := by decide +kernel
theorem dH_judge_33 : decode prog_1_method_28_code 33 = .ok (.getfield 282, 3) := by decide +kernel
theorem dH_judge_36 : decode prog_1_method_28_code 36 = .ok (.ifCond .ne 5, 3) := by decide +kernel
theorem dH_judge_39 : decode prog_1_method_28_code 39 = .ok (.iconst 3, 1) := by decide +kernel
theorem dH_judge_40 : decode prog_1_method_28_code 40 = .ok (.ireturn, 1) := by decide +kernel
theorem dH_judge_41 : decode prog_1_method_28_code 41 = .ok (.aload_n 0, 1) := by decide +kernel
theorem dH_judge_42 : decode prog_1_method_28_code 42 = .ok (.aload_n 1, 1) := by decide +kernel
theorem dH_judge_43 : decode prog_1_method_28_code 43 = .ok (.invokevirtual 295, 3) := by decide +kernel
theorem dH_judge_46 : decode prog_1_method_28_code 46 = .ok (.ifCond .eq 7, 3) := by decide +kernel
theorem dH_judge_49 : decode prog_1_method_28_code 49 = .ok (.iconst 4, 1) := by decide +kernel
theorem dH_judge_50 : decode prog_1_method_28_code 50 = .ok (.goto 4, 3) := by decide +kernel
theorem dH_judge_53 : decode prog_1_method_28_code 53 = .ok (.iconst 1, 1) := by decide +kernel
theorem dH_judge_54 : decode prog_1_method_28_code 54 = .ok (.ireturn, 1) := by decide +kernel
theorem dH_isAnyInputUsedUp_0 : decode prog_1_method_29_code 0 = .ok (.aload_n 1, 1) := by decide +kernel
theorem dH_isAnyInputUsedUp_1 : decode prog_1_method_29_code 1 = .ok (.getfield 84, 3) := by decide +kernel
theorem dH_isAnyInputUsedUp_4 : decode prog_1_method_29_code 4 = .ok (.astore_n 2, 1) := by decide +kernel
theorem dH_isAnyInputUsedUp_5 : decode prog_1_method_29_code 5 = .ok (.iconst 0, 1) := by decide +kernel
theorem dH_isAnyInputUsedUp_6 : decode prog_1_method_29_code 6 = .ok (.istore_n 3, 1) := by decide +kernel
theorem dH_isAnyInputUsedUp_7 : decode prog_1_method_29_code 7 = .ok (.iload_n 3, 1) := by decide +kernel
theorem dH_isAnyInputUsedUp_8 : decode prog_1_method_29_code 8 = .ok (.aload_n 2, 1) := by decide +kernel
theorem dH_isAnyInputUsedUp_9 : decode prog_1_method_29_code 9 = .ok (.getfield 299, 3) := by decide +kernel
theorem dH_isAnyInputUsedUp_12 : decode prog_1_method_29_code 12 = .ok (.if_icmp .ge 29, 3) := by decide +kernel
theorem dH_isAnyInputUsedUp_15 : decode prog_1_method_29_code 15 = .ok (.aload_n 0, 1) := by decide +kernel
theorem dH_isAnyInputUsedUp_16 : decode prog_1_method_29_code 16 = .ok (.getfield 29, 3) := by decide +kernel
theorem dH_isAnyInputUsedUp_19 : decode prog_1_method_29_code 19 = .ok (.aload_n 2, 1) := by decide +kernel
theorem dH_isAnyInputUsedUp_20 : decode prog_1_method_29_code 20 = .ok (.getfield 300, 3) := by decide +kernel
theorem dH_isAnyInputUsedUp_23 : decode prog_1_method_29_code 23 = .ok (.iload_n 3, 1) := by decide +kernel
theorem dH_isAnyInputUsedUp_24 : decode prog_1_method_29_code 24 = .ok (.aaload, 1) := by decide +kernel
theorem dH_isAnyInputUsedUp_25 : decode prog_1_method_29_code 25 = .ok (.getfield 88, 3) := by decide +kernel
theorem dH_isAnyInputUsedUp_28 : decode prog_1_method_29_code 28 = .ok (.iaload, 1) := by decide +kernel
theorem dH_isAnyInputUsedUp_29 : decode prog_1_method_29_code 29 = .ok (.iconst (-1), 1) := by decide +kernel
theorem dH_isAnyInputUsedUp_30 : decode prog_1_method_29_code 30 = .ok (.if_icmp .eq 5, 3) := by decide +kernel
theorem dH_isAnyInputUsedUp_33 : decode prog_1_method_29_code 33 = .ok (.iconst 1, 1) := by decide +kernel
theorem dH_isAnyInputUsedUp_34 : decode prog_1_method_29_code 34 = .ok (.ireturn, 1) := by decide +kernel
theorem dH_isAnyInputUsedUp_35 : decode prog_1_method_29_code 35 = .ok (.iinc 3 1, 3) := by decide +kernel
theorem dH_isAnyInputUsedUp_38 : decode prog_1_method_29_code 38 = .ok (.goto (-31), 3) := by decide +kernel
theorem dH_isAnyInputUsedUp_41 : decode prog_1_method_29_code 41 = .ok (.iconst 0, 1) := by decide +kernel
theorem dH_isAnyInputUsedUp_42 : decode prog_1_method_29_code 42 = .ok (.ireturn, 1) := by decide +kernel
theorem dH_useUpInputs_0 : decode prog_1_method_30_code 0 = .ok (.aload_n 1, 1) := by decide +kernel
theorem dH_useUpInputs_1 : decode prog_1_method_30_code 1 = .ok (.getfield 84, 3) := by decide +kernel
theorem dH_useUpInputs_4 : decode prog_1_method_30_code 4 = .ok (.astore_n 2, 1) := by decide +kernel
theorem dH_useUpInputs_5 : decode prog_1_method_30_code 5 = .ok (.iconst 0, 1) := by decide +kernel
theorem dH_useUpInputs_6 : decode prog_1_method_30_code 6 = .ok (.istore_n 3, 1) := by decide +kernel
theorem dH_useUpInputs_7 : decode prog_1_method_30_code 7 = .ok (.iload_n 3, 1) := by decide +kernel
theorem dH_useUpInputs_8 : decode prog_1_method_30_code 8 = .ok (.aload_n 2, 1) := by decide +kernel
theorem dH_useUpInputs_9 : decode prog_1_method_30_code 9 = .ok (.getfield 299, 3) := by decide +kernel
theorem dH_useUpInputs_12 : decode prog_1_method_30_code 12 = .ok (.if_icmp .ge 27, 3) := by decide +kernel
theorem dH_useUpInputs_15 : decode prog_1_method_30_code 15 = .ok (.aload_n 0, 1) := by decide +kernel
theorem dH_useUpInputs_16 : decode prog_1_method_30_code 16 = .ok (.getfield 29, 3) := by decide +kernel
theorem dH_useUpInputs_19 : decode prog_1_method_30_code 19 = .ok (.aload_n 2, 1) := by decide +kernel
theorem dH_useUpInputs_20 : decode prog_1_method_30_code 20 = .ok (.getfield 300, 3) := by decide +kernel
theorem dH_useUpInputs_23 : decode prog_1_method_30_code 23 = .ok (.iload_n 3, 1) := by decide +kernel
theorem dH_useUpInputs_24 : decode prog_1_method_30_code 24 = .ok (.aaload, 1) := by decide +kernel
theorem dH_useUpInputs_25 : decode prog_1_method_30_code 25 = .ok (.getfield 88, 3) := by decide +kernel
theorem dH_useUpInputs_28 : decode prog_1_method_30_code 28 = .ok (.aload_n 1, 1) := by decide +kernel
theorem dH_useUpInputs_29 : decode prog_1_method_30_code 29 = .ok (.getfield 281, 3) := by decide +kernel
theorem dH_useUpInputs_32 : decode prog_1_method_30_code 32 = .ok (.iastore, 1) := by decide +kernel
theorem dH_useUpInputs_33 : decode prog_1_method_30_code 33 = .ok (.iinc 3 1, 3) := by decide +kernel
theorem dH_useUpInputs_36 : decode prog_1_method_30_code 36 = .ok (.goto (-29), 3) := by decide +kernel
theorem dH_useUpInputs_39 : decode prog_1_method_30_code 39 = .ok (.return_, 1) := by decide +kernel
theorem dH_receiveVerdict_0 : decode prog_1_method_26_code 0 = .ok (.aload_n 1, 1) := by decide +kernel
theorem dH_receiveVerdict_1 : decode prog_1_method_26_code 1 = .ok (.getfield 68, 3) := by decide +kernel
theorem dH_receiveVerdict_4 : decode prog_1_method_26_code 4 = .ok (.iconst 1, 1) := by decide +kernel
theorem dH_receiveVerdict_5 : decode prog_1_method_26_code 5 = .ok (.if_icmp .ne 5, 3) := by decide +kernel
theorem dH_receiveVerdict_8 : decode prog_1_method_26_code 8 = .ok (.iconst 0, 1) := by decide +kernel
theorem dH_receiveVerdict_9 : decode prog_1_method_26_code 9 = .ok (.ireturn, 1) := by decide +kernel
theorem dH_receiveVerdict_10 : decode prog_1_method_26_code 10 = .ok (.aload_n 1, 1) := by decide +kernel
theorem dH_receiveVerdict_11 : decode prog_1_method_26_code 11 = .ok (.getfield 68, 3) := by decide +kernel
theorem dH_receiveVerdict_14 : decode prog_1_method_26_code 14 = .ok (.iconst 2, 1) := by decide +kernel
theorem dH_receiveVerdict_15 : decode prog_1_method_26_code 15 = .ok (.if_icmp .eq 5, 3) := by decide +kernel
theorem dH_receiveVerdict_18 : decode prog_1_method_26_code 18 = .ok (.iconst 1, 1) := by decide +kernel
theorem dH_receiveVerdict_19 : decode prog_1_method_26_code 19 = .ok (.ireturn, 1) := by decide +kernel
theorem dH_receiveVerdict_20 : decode prog_1_method_26_code 20 = .ok (.iload_n 2, 1) := by decide +kernel
theorem dH_receiveVerdict_21 : decode prog_1_method_26_code 21 = .ok (.iconst 1, 1) := by decide +kernel
theorem dH_receiveVerdict_22 : decode prog_1_method_26_code 22 = .ok (.if_icmp .ne 19, 3) := by decide +kernel
theorem dH_receiveVerdict_25 : decode prog_1_method_26_code 25 = .ok (.aload_n 0, 1) := by decide +kernel
theorem dH_receiveVerdict_26 : decode prog_1_method_26_code 26 = .ok (.iconst 4, 1) := by decide +kernel
theorem dH_receiveVerdict_27 : decode prog_1_method_26_code 27 = .ok (.aload_n 1, 1) := by decide +kernel
theorem dH_receiveVerdict_28 : decode prog_1_method_26_code 28 = .ok (.aload_n 1, 1) := by decide +kernel
theorem dH_receiveVerdict_29 : decode prog_1_method_26_code 29 = .ok (.getfield 156, 3) := by decide +kernel
theorem dH_receiveVerdict_32 : decode prog_1_method_26_code 32 = .ok (.aload_n 1, 1) := by decide +kernel
theorem dH_receiveVerdict_33 : decode prog_1_method_26_code 33 = .ok (.invokevirtual 275, 3) := by decide +kernel
theorem dH_receiveVerdict_36 : decode prog_1_method_26_code 36 = .ok (.ior, 1) := by decide +kernel
theorem dH_receiveVerdict_37 : decode prog_1_method_26_code 37 = .ok (.invokevirtual 159, 3) := by decide +kernel
theorem dH_receiveVerdict_40 : decode prog_1_method_26_code 40 = .ok (.pop, 1) := by decide +kernel
theorem dH_receiveVerdict_41 : decode prog_1_method_26_code 41 = .ok (.iload_n 3, 1) := by decide +kernel
theorem dH_receiveVerdict_42 : decode prog_1_method_26_code 42 = .ok (.ifCond .ne 9, 3) := by decide +kernel
theorem dH_receiveVerdict_45 : decode prog_1_method_26_code 45 = .ok (.aload_n 0, 1) := by decide +kernel
theorem dH_receiveVerdict_46 : decode prog_1_method_26_code 46 = .ok (.aload_n 1, 1) := by decide +kernel
theorem dH_receiveVerdict_47 : decode prog_1_method_26_code 47 = .ok (.iload_n 2, 1) := by decide +kernel
theorem dH_receiveVerdict_48 : decode prog_1_method_26_code 48 = .ok (.invokevirtual 278, 3) := by decide +kernel
theorem dH_receiveVerdict_51 : decode prog_1_method_26_code 51 = .ok (.iconst 2, 1) := by decide +kernel
theorem dH_receiveVerdict_52 : decode prog_1_method_26_code 52 = .ok (.ireturn, 1) := by decide +kernel
theorem dT_concerned_0 : decode prog_6_method_14_code 0 = .ok (.iconst 0, 1) := by decide +kernel
theorem dT_concerned_1 : decode prog_6_method_14_code 1 = .ok (.istore_n 1, 1) := by decide +kernel
theorem dT_concerned_2 : decode prog_6_method_14_code 2 = .ok (.iconst 0, 1) := by decide +kernel
theorem dT_concerned_3 : decode prog_6_method_14_code 3 = .ok (.istore_n 2, 1) := by decide +kernel
theorem dT_concerned_4 : decode prog_6_method_14_code 4 = .ok (.iload_n 2, 1) := by decide +kernel
theorem dT_concerned_5 : decode prog_6_method_14_code 5 = .ok (.iconst 4, 1) := by decide +kernel
theorem dT_concerned_6 : decode prog_6_method_14_code 6 = .ok (.if_icmp .ge 51, 3) := by decide +kernel
theorem dT_concerned_9 : decode prog_6_method_14_code 9 = .ok (.iconst 0, 1) := by decide +kernel
theorem dT_concerned_10 : decode prog_6_method_14_code 10 = .ok (.istore_n 3, 1) := by decide +kernel
theorem dT_concerned_11 : decode prog_6_method_14_code 11 = .ok (.iload_n 3, 1) := by decide +kernel
theorem dT_concerned_12 : decode prog_6_method_14_code 12 = .ok (.aload_n 0, 1) := by decide +kernel
theorem dT_concerned_13 : decode prog_6_method_14_code 13 = .ok (.getfield 34, 3) := by decide +kernel
theorem dT_concerned_16 : decode prog_6_method_14_code 16 = .ok (.getfield 56, 3) := by decide +kernel
theorem dT_concerned_19 : decode prog_6_method_14_code 19 = .ok (.if_icmp .ge 32, 3) := by decide +kernel
theorem dT_concerned_22 : decode prog_6_method_14_code 22 = .ok (.aload_n 0, 1) := by decide +kernel
theorem dT_concerned_23 : decode prog_6_method_14_code 23 = .ok (.getfield 34, 3) := by decide +kernel
theorem dT_concerned_26 : decode prog_6_method_14_code 26 = .ok (.getfield 93, 3) := by decide +kernel
theorem dT_concerned_29 : decode prog_6_method_14_code 29 = .ok (.iload_n 3, 1) := by decide +kernel
theorem dT_concerned_30 : decode prog_6_method_14_code 30 = .ok (.aaload, 1) := by decide +kernel
theorem dT_concerned_31 : decode prog_6_method_14_code 31 = .ok (.iload_n 2, 1) := by decide +kernel
theorem dT_concerned_32 : decode prog_6_method_14_code 32 = .ok (.invokevirtual 144, 3) := by decide +kernel
theorem dT_concerned_35 : decode prog_6_method_14_code 35 = .ok (.ifCond .eq 10, 3) := by decide +kernel
theorem dT_concerned_38 : decode prog_6_method_14_code 38 = .ok (.iload_n 1, 1) := by decide +kernel
theorem dT_concerned_39 : decode prog_6_method_14_code 39 = .ok (.iload_n 2, 1) := by decide +kernel
theorem dT_concerned_40 : decode prog_6_method_14_code 40 = .ok (.invokestatic 46, 3) := by decide +kernel
theorem dT_concerned_43 : decode prog_6_method_14_code 43 = .ok (.ior, 1) := by decide +kernel
theorem dT_concerned_44 : decode prog_6_method_14_code 44 = .ok (.istore_n 1, 1) := by decide +kernel
theorem dT_concerned_45 : decode prog_6_method_14_code 45 = .ok (.iinc 3 1, 3) := by decide +kernel
theorem dT_concerned_48 : decode prog_6_method_14_code 48 = .ok (.goto (-37), 3) := by decide +kernel
theorem dT_concerned_51 : decode prog_6_method_14_code 51 = .ok (.iinc 2 1, 3) := by decide +kernel
theorem dT_concerned_54 : decode prog_6_method_14_code 54 = .ok (.goto (-50), 3) := by decide +kernel
theorem dT_concerned_57 : decode prog_6_method_14_code 57 = .ok (.iload_n 1, 1) := by decide +kernel
theorem dT_concerned_58 : decode prog_6_method_14_code 58 = .ok (.ireturn, 1) := by decide +kernel
theorem dH_settle_0 : decode prog_1_method_31_code 0 = .ok (.iload_n 2, 1) := by decide +kernel
theorem dH_settle_1 : decode prog_1_method_31_code 1 = .ok (.tableswitch 84 1 3 #[27, 67, 75], 27) := by decide +kernel
theorem dH_settle_28 : decode prog_1_method_31_code 28 = .ok (.aload_n 1, 1) := by decide +kernel
theorem dH_settle_29 : decode prog_1_method_31_code 29 = .ok (.getfield 282, 3) := by decide +kernel
theorem dH_settle_32 : decode prog_1_method_31_code 32 = .ok (.ifCond .eq 27, 3) := by decide +kernel
theorem dH_settle_35 : decode prog_1_method_31_code 35 = .ok (.aload_n 1, 1) := by decide +kernel
theorem dH_settle_36 : decode prog_1_method_31_code 36 = .ok (.iconst 3, 1) := by decide +kernel
theorem dH_settle_37 : decode prog_1_method_31_code 37 = .ok (.putfield 68, 3) := by decide +kernel
theorem dH_settle_40 : decode prog_1_method_31_code 40 = .ok (.aload_n 0, 1) := by decide +kernel
theorem dH_settle_41 : decode prog_1_method_31_code 41 = .ok (.getfield 17, 3) := by decide +kernel
theorem dH_settle_44 : decode prog_1_method_31_code 44 = .ok (.aload_n 1, 1) := by decide +kernel
theorem dH_settle_45 : decode prog_1_method_31_code 45 = .ok (.getfield 71, 3) := by decide +kernel
theorem dH_settle_48 : decode prog_1_method_31_code 48 = .ok (.aaload, 1) := by decide +kernel
theorem dH_settle_49 : decode prog_1_method_31_code 49 = .ok (.aload_n 1, 1) := by decide +kernel
theorem dH_settle_50 : decode prog_1_method_31_code 50 = .ok (.getfield 281, 3) := by decide +kernel
theorem dH_settle_53 : decode prog_1_method_31_code 53 = .ok (.invokevirtual 286, 3) := by decide +kernel
theorem dH_settle_56 : decode prog_1_method_31_code 56 = .ok (.goto 35, 3) := by decide +kernel
theorem dH_settle_59 : decode prog_1_method_31_code 59 = .ok (.aload_n 1, 1) := by decide +kernel
theorem dH_settle_60 : decode prog_1_method_31_code 60 = .ok (.bipush 8, 2) := by decide +kernel
theorem dH_settle_62 : decode prog_1_method_31_code 62 = .ok (.putfield 68, 3) := by decide +kernel
theorem dH_settle_65 : decode prog_1_method_31_code 65 = .ok (.goto 26, 3) := by decide +kernel
theorem dH_settle_68 : decode prog_1_method_31_code 68 = .ok (.aload_n 1, 1) := by decide +kernel
theorem dH_settle_69 : decode prog_1_method_31_code 69 = .ok (.iconst 5, 1) := by decide +kernel
theorem dH_settle_70 : decode prog_1_method_31_code 70 = .ok (.putfield 68, 3) := by decide +kernel
theorem dH_settle_73 : decode prog_1_method_31_code 73 = .ok (.goto 18, 3) := by decide +kernel
theorem dH_settle_76 : decode prog_1_method_31_code 76 = .ok (.aload_n 1, 1) := by decide +kernel
theorem dH_settle_77 : decode prog_1_method_31_code 77 = .ok (.bipush 6, 2) := by decide +kernel
theorem dH_settle_79 : decode prog_1_method_31_code 79 = .ok (.putfield 68, 3) := by decide +kernel
theorem dH_settle_82 : decode prog_1_method_31_code 82 = .ok (.goto 9, 3) := by decide +kernel
theorem dH_settle_85 : decode prog_1_method_31_code 85 = .ok (.aload_n 1, 1) := by decide +kernel
theorem dH_settle_86 : decode prog_1_method_31_code 86 = .ok (.bipush 7, 2) := by decide +kernel
theorem dH_settle_88 : decode prog_1_method_31_code 88 = .ok (.putfield 68, 3) := by decide +kernel
theorem dH_settle_91 : decode prog_1_method_31_code 91 = .ok (.return_, 1) := by decide +kernel
theorem dN_enter_0 : decode prog_3_method_3_code 0 = .ok (.aload_n 0, 1) := by decide +kernel
theorem dN_enter_1 : decode prog_3_method_3_code 1 = .ok (.dup, 1) := by decide +kernel
theorem dN_enter_2 : decode prog_3_method_3_code 2 = .ok (.getfield 22, 3) := by decide +kernel
theorem dN_enter_5 : decode prog_3_method_3_code 5 = .ok (.iload_n 1, 1) := by decide +kernel
theorem dN_enter_6 : decode prog_3_method_3_code 6 = .ok (.invokestatic 9, 3) := by decide +kernel
theorem dN_enter_9 : decode prog_3_method_3_code 9 = .ok (.ior, 1) := by decide +kernel
theorem dN_enter_10 : decode prog_3_method_3_code 10 = .ok (.putfield 22, 3) := by decide +kernel
theorem dN_enter_13 : decode prog_3_method_3_code 13 = .ok (.aload_n 0, 1) := by decide +kernel
theorem dN_enter_14 : decode prog_3_method_3_code 14 = .ok (.dup, 1) := by decide +kernel
theorem dN_enter_15 : decode prog_3_method_3_code 15 = .ok (.getfield 30, 3) := by decide +kernel
theorem dN_enter_18 : decode prog_3_method_3_code 18 = .ok (.iload_n 1, 1) := by decide +kernel
theorem dN_enter_19 : decode prog_3_method_3_code 19 = .ok (.invokestatic 9, 3) := by decide +kernel
theorem dN_enter_22 : decode prog_3_method_3_code 22 = .ok (.ior, 1) := by decide +kernel
theorem dN_enter_23 : decode prog_3_method_3_code 23 = .ok (.putfield 30, 3) := by decide +kernel
theorem dN_enter_26 : decode prog_3_method_3_code 26 = .ok (.return_, 1) := by decide +kernel
theorem dH_receiveFinality_0 : decode prog_1_method_27_code 0 = .ok (.iload_n 2, 1) := by decide +kernel
theorem dH_receiveFinality_1 : decode prog_1_method_27_code 1 = .ok (.invokestatic 45, 3) := by decide +kernel
theorem dH_receiveFinality_4 : decode prog_1_method_27_code 4 = .ok (.ifCond .ne 5, 3) := by decide +kernel
theorem dH_receiveFinality_7 : decode prog_1_method_27_code 7 = .ok (.iconst (-1), 1) := by decide +kernel
theorem dH_receiveFinality_8 : decode prog_1_method_27_code 8 = .ok (.ireturn, 1) := by decide +kernel
theorem dH_receiveFinality_9 : decode prog_1_method_27_code 9 = .ok (.aload_n 0, 1) := by decide +kernel
theorem dH_receiveFinality_10 : decode prog_1_method_27_code 10 = .ok (.getfield 17, 3) := by decide +kernel
theorem dH_receiveFinality_13 : decode prog_1_method_27_code 13 = .ok (.iload_n 2, 1) := by decide +kernel
theorem dH_receiveFinality_14 : decode prog_1_method_27_code 14 = .ok (.aaload, 1) := by decide +kernel
theorem dH_receiveFinality_15 : decode prog_1_method_27_code 15 = .ok (.astore 4, 2) := by decide +kernel
theorem dH_receiveFinality_17 : decode prog_1_method_27_code 17 = .ok (.aload 4, 2) := by decide +kernel
theorem dH_receiveFinality_19 : decode prog_1_method_27_code 19 = .ok (.getfield 199, 3) := by decide +kernel
theorem dH_receiveFinality_22 : decode prog_1_method_27_code 22 = .ok (.aload_n 1, 1) := by decide +kernel
theorem dH_receiveFinality_23 : decode prog_1_method_27_code 23 = .ok (.getfield 281, 3) := by decide +kernel
theorem dH_receiveFinality_26 : decode prog_1_method_27_code 26 = .ok (.invokestatic 77, 3) := by decide +kernel
theorem dH_receiveFinality_29 : decode prog_1_method_27_code 29 = .ok (.ifCond .eq 5, 3) := by decide +kernel
theorem dH_receiveFinality_32 : decode prog_1_method_27_code 32 = .ok (.iconst 1, 1) := by decide +kernel
theorem dH_receiveFinality_33 : decode prog_1_method_27_code 33 = .ok (.ireturn, 1) := by decide +kernel
theorem dH_receiveFinality_34 : decode prog_1_method_27_code 34 = .ok (.aload_n 1, 1) := by decide +kernel
theorem dH_receiveFinality_35 : decode prog_1_method_27_code 35 = .ok (.getfield 282, 3) := by decide +kernel
theorem dH_receiveFinality_38 : decode prog_1_method_27_code 38 = .ok (.ifCond .ne 5, 3) := by decide +kernel
theorem dH_receiveFinality_41 : decode prog_1_method_27_code 41 = .ok (.iconst 3, 1) := by decide +kernel
theorem dH_receiveFinality_42 : decode prog_1_method_27_code 42 = .ok (.ireturn, 1) := by decide +kernel
theorem dH_receiveFinality_43 : decode prog_1_method_27_code 43 = .ok (.iload_n 3, 1) := by decide +kernel
theorem dH_receiveFinality_44 : decode prog_1_method_27_code 44 = .ok (.ifCond .ne 21, 3) := by decide +kernel
theorem dH_receiveFinality_47 : decode prog_1_method_27_code 47 = .ok (.aload 4, 2) := by decide +kernel
theorem dH_receiveFinality_49 : decode prog_1_method_27_code 49 = .ok (.aload_n 1, 1) := by decide +kernel
theorem dH_receiveFinality_50 : decode prog_1_method_27_code 50 = .ok (.getfield 258, 3) := by decide +kernel
theorem dH_receiveFinality_53 : decode prog_1_method_27_code 53 = .ok (.invokevirtual 261, 3) := by decide +kernel
theorem dH_receiveFinality_56 : decode prog_1_method_27_code 56 = .ok (.aload 4, 2) := by decide +kernel
theorem dH_receiveFinality_58 : decode prog_1_method_27_code 58 = .ok (.aload_n 1, 1) := by decide +kernel
theorem dH_receiveFinality_59 : decode prog_1_method_27_code 59 = .ok (.getfield 281, 3) := by decide +kernel
theorem dH_receiveFinality_62 : decode prog_1_method_27_code 62 = .ok (.invokevirtual 286, 3) := by decide +kernel
theorem dH_receiveFinality_65 : decode prog_1_method_27_code 65 = .ok (.iconst 2, 1) := by decide +kernel
theorem dH_receiveFinality_66 : decode prog_1_method_27_code 66 = .ok (.ireturn, 1) := by decide +kernel
theorem dB_removeAt_0 : decode prog_2_method_11_code 0 = .ok (.aload_n 0, 1) := by decide +kernel
theorem dB_removeAt_1 : decode prog_2_method_11_code 1 = .ok (.iload_n 1, 1) := by decide +kernel
theorem dB_removeAt_2 : decode prog_2_method_11_code 2 = .ok (.invokevirtual 23, 3) := by decide +kernel
theorem dB_removeAt_5 : decode prog_2_method_11_code 5 = .ok (.ifCond .ne 4, 3) := by decide +kernel
theorem dB_removeAt_8 : decode prog_2_method_11_code 8 = .ok (.return_, 1) := by decide +kernel
theorem dB_removeAt_9 : decode prog_2_method_11_code 9 = .ok (.iload_n 1, 1) := by decide +kernel
theorem dB_removeAt_10 : decode prog_2_method_11_code 10 = .ok (.iconst 1, 1) := by decide +kernel
theorem dB_removeAt_11 : decode prog_2_method_11_code 11 = .ok (.iadd, 1) := by decide +kernel
theorem dB_removeAt_12 : decode prog_2_method_11_code 12 = .ok (.istore_n 2, 1) := by decide +kernel
theorem dB_removeAt_13 : decode prog_2_method_11_code 13 = .ok (.iload_n 2, 1) := by decide +kernel
theorem dB_removeAt_14 : decode prog_2_method_11_code 14 = .ok (.aload_n 0, 1) := by decide +kernel
theorem dB_removeAt_15 : decode prog_2_method_11_code 15 = .ok (.getfield 15, 3) := by decide +kernel
theorem dB_removeAt_18 : decode prog_2_method_11_code 18 = .ok (.if_icmp .ge 23, 3) := by decide +kernel
theorem dB_removeAt_21 : decode prog_2_method_11_code 21 = .ok (.aload_n 0, 1) := by decide +kernel
theorem dB_removeAt_22 : decode prog_2_method_11_code 22 = .ok (.getfield 9, 3) := by decide +kernel
theorem dB_removeAt_25 : decode prog_2_method_11_code 25 = .ok (.iload_n 2, 1) := by decide +kernel
theorem dB_removeAt_26 : decode prog_2_method_11_code 26 = .ok (.iconst 1, 1) := by decide +kernel
theorem dB_removeAt_27 : decode prog_2_method_11_code 27 = .ok (.isub, 1) := by decide +kernel
theorem dB_removeAt_28 : decode prog_2_method_11_code 28 = .ok (.aload_n 0, 1) := by decide +kernel
theorem dB_removeAt_29 : decode prog_2_method_11_code 29 = .ok (.getfield 9, 3) := by decide +kernel
theorem dB_removeAt_32 : decode prog_2_method_11_code 32 = .ok (.iload_n 2, 1) := by decide +kernel
theorem dB_removeAt_33 : decode prog_2_method_11_code 33 = .ok (.iaload, 1) := by decide +kernel
theorem dB_removeAt_34 : decode prog_2_method_11_code 34 = .ok (.iastore, 1) := by decide +kernel
theorem dB_removeAt_35 : decode prog_2_method_11_code 35 = .ok (.iinc 2 1, 3) := by decide +kernel
theorem dB_removeAt_38 : decode prog_2_method_11_code 38 = .ok (.goto (-25), 3) := by decide +kernel
theorem dB_removeAt_41 : decode prog_2_method_11_code 41 = .ok (.aload_n 0, 1) := by decide +kernel
theorem dB_removeAt_42 : decode prog_2_method_11_code 42 = .ok (.dup, 1) := by decide +kernel
theorem dB_removeAt_43 : decode prog_2_method_11_code 43 = .ok (.getfield 15, 3) := by decide +kernel
theorem dB_removeAt_46 : decode prog_2_method_11_code 46 = .ok (.iconst 1, 1) := by decide +kernel
theorem dB_removeAt_47 : decode prog_2_method_11_code 47 = .ok (.isub, 1) := by decide +kernel
theorem dB_removeAt_48 : decode prog_2_method_11_code 48 = .ok (.putfield 15, 3) := by decide +kernel
theorem dB_removeAt_51 : decode prog_2_method_11_code 51 = .ok (.return_, 1) := by decide +kernel
theorem dH_message_0 : decode prog_1_method_10_code 0 = .ok (.iload_n 1, 1) := by decide +kernel
theorem dH_message_1 : decode prog_1_method_10_code 1 = .ok (.iconst (-1), 1) := by decide +kernel
theorem dH_message_2 : decode prog_1_method_10_code 2 = .ok (.if_icmp .ne 11, 3) := by decide +kernel
theorem dH_message_5 : decode prog_1_method_10_code 5 = .ok (.aload_n 0, 1) := by decide +kernel
theorem dH_message_6 : decode prog_1_method_10_code 6 = .ok (.getfield 25, 3) := by decide +kernel
theorem dH_message_9 : decode prog_1_method_10_code 9 = .ok (.getfield 177, 3) := by decide +kernel
theorem dH_message_12 : decode prog_1_method_10_code 12 = .ok (.ireturn, 1) := by decide +kernel
theorem dH_message_13 : decode prog_1_method_10_code 13 = .ok (.aload_n 0, 1) := by decide +kernel
theorem dH_message_14 : decode prog_1_method_10_code 14 = .ok (.getfield 25, 3) := by decide +kernel
theorem dH_message_17 : decode prog_1_method_10_code 17 = .ok (.iload_n 1, 1) := by decide +kernel
theorem dH_message_18 : decode prog_1_method_10_code 18 = .ok (.invokevirtual 163, 3) := by decide +kernel
theorem dH_message_21 : decode prog_1_method_10_code 21 = .ok (.ifCond .eq 15, 3) := by decide +kernel
theorem dH_message_24 : decode prog_1_method_10_code 24 = .ok (.aload_n 0, 1) := by decide +kernel
theorem dH_message_25 : decode prog_1_method_10_code 25 = .ok (.getfield 25, 3) := by decide +kernel
theorem dH_message_28 : decode prog_1_method_10_code 28 = .ok (.getfield 166, 3) := by decide +kernel
theorem dH_message_31 : decode prog_1_method_10_code 31 = .ok (.iload_n 1, 1) := by decide +kernel
theorem dH_message_32 : decode prog_1_method_10_code 32 = .ok (.iaload, 1) := by decide +kernel
theorem dH_message_33 : decode prog_1_method_10_code 33 = .ok (.goto 4, 3) := by decide +kernel
theorem dH_message_36 : decode prog_1_method_10_code 36 = .ok (.iconst (-1), 1) := by decide +kernel
theorem dH_message_37 : decode prog_1_method_10_code 37 = .ok (.ireturn, 1) := by decide +kernel
theorem dH_tick_0 : decode prog_1_method_11_code 0 = .ok (.iload_n 1, 1) := by decide +kernel
theorem dH_tick_1 : decode prog_1_method_11_code 1 = .ok (.ifCond .lt 20, 3) := by decide +kernel
theorem dH_tick_4 : decode prog_1_method_11_code 4 = .ok (.iload_n 1, 1) := by decide +kernel
theorem dH_tick_5 : decode prog_1_method_11_code 5 = .ok (.sipush 1000, 3) := by decide +kernel
theorem dH_tick_8 : decode prog_1_method_11_code 8 = .ok (.if_icmp .gt 13, 3) := by decide +kernel
theorem dH_tick_11 : decode prog_1_method_11_code 11 = .ok (.aload_n 0, 1) := by decide +kernel
theorem dH_tick_12 : decode prog_1_method_11_code 12 = .ok (.dup, 1) := by decide +kernel
theorem dH_tick_13 : decode prog_1_method_11_code 13 = .ok (.getfield 180, 3) := by decide +kernel
theorem dH_tick_16 : decode prog_1_method_11_code 16 = .ok (.iload_n 1, 1) := by decide +kernel
theorem dH_tick_17 : decode prog_1_method_11_code 17 = .ok (.iadd, 1) := by decide +kernel
theorem dH_tick_18 : decode prog_1_method_11_code 18 = .ok (.putfield 180, 3) := by decide +kernel
theorem dH_tick_21 : decode prog_1_method_11_code 21 = .ok (.aload_n 0, 1) := by decide +kernel
theorem dH_tick_22 : decode prog_1_method_11_code 22 = .ok (.getfield 180, 3) := by decide +kernel
theorem dH_tick_25 : decode prog_1_method_11_code 25 = .ok (.ireturn, 1) := by decide +kernel
theorem dH_consent_0 : decode prog_1_method_12_code 0 = .ok (.iload_n 1, 1) := by decide +kernel
theorem dH_consent_1 : decode prog_1_method_12_code 1 = .ok (.invokestatic 45, 3) := by decide +kernel
theorem dH_consent_4 : decode prog_1_method_12_code 4 = .ok (.ifCond .eq 15, 3) := by decide +kernel
theorem dH_consent_7 : decode prog_1_method_12_code 7 = .ok (.iload_n 2, 1) := by decide +kernel
theorem dH_consent_8 : decode prog_1_method_12_code 8 = .ok (.invokestatic 45, 3) := by decide +kernel
theorem dH_consent_11 : decode prog_1_method_12_code 11 = .ok (.ifCond .eq 8, 3) := by decide +kernel
theorem dH_consent_14 : decode prog_1_method_12_code 14 = .ok (.iload_n 1, 1) := by decide +kernel
theorem dH_consent_15 : decode prog_1_method_12_code 15 = .ok (.iload_n 2, 1) := by decide +kernel
theorem dH_consent_16 : decode prog_1_method_12_code 16 = .ok (.if_icmp .ne 5, 3) := by decide +kernel
theorem dH_consent_19 : decode prog_1_method_12_code 19 = .ok (.iconst 0, 1) := by decide +kernel
theorem dH_consent_20 : decode prog_1_method_12_code 20 = .ok (.ireturn, 1) := by decide +kernel
theorem dH_consent_21 : decode prog_1_method_12_code 21 = .ok (.iload_n 3, 1) := by decide +kernel
theorem dH_consent_22 : decode prog_1_method_12_code 22 = .ok (.ifCond .eq 24, 3) := by decide +kernel
theorem dH_consent_25 : decode prog_1_method_12_code 25 = .ok (.aload_n 0, 1) := by decide +kernel
theorem dH_consent_26 : decode prog_1_method_12_code 26 = .ok (.getfield 17, 3) := by decide +kernel
theorem dH_consent_29 : decode prog_1_method_12_code 29 = .ok (.iload_n 1, 1) := by decide +kernel
theorem dH_consent_30 : decode prog_1_method_12_code 30 = .ok (.aaload, 1) := by decide +kernel
theorem dH_consent_31 : decode prog_1_method_12_code 31 = .ok (.dup, 1) := by decide +kernel
theorem dH_consent_32 : decode prog_1_method_12_code 32 = .ok (.getfield 183, 3) := by decide +kernel
theorem dH_consent_35 : decode prog_1_method_12_code 35 = .ok (.iload_n 2, 1) := by decide +kernel
theorem dH_consent_36 : decode prog_1_method_12_code 36 = .ok (.invokestatic 186, 3) := by decide +kernel
theorem dH_consent_39 : decode prog_1_method_12_code 39 = .ok (.ior, 1) := by decide +kernel
theorem dH_consent_40 : decode prog_1_method_12_code 40 = .ok (.putfield 183, 3) := by decide +kernel
theorem dH_consent_43 : decode prog_1_method_12_code 43 = .ok (.goto 23, 3) := by decide +kernel
theorem dH_consent_46 : decode prog_1_method_12_code 46 = .ok (.aload_n 0, 1) := by decide +kernel
theorem dH_consent_47 : decode prog_1_method_12_code 47 = .ok (.getfield 17, 3) := by decide +kernel
theorem dH_consent_50 : decode prog_1_method_12_code 50 = .ok (.iload_n 1, 1) := by decide +kernel
theorem dH_consent_51 : decode prog_1_method_12_code 51 = .ok (.aaload, 1) := by decide +kernel
theorem dH_consent_52 : decode prog_1_method_12_code 52 = .ok (.dup, 1) := by decide +kernel
theorem dH_consent_53 : decode prog_1_method_12_code 53 = .ok (.getfield 183, 3) := by decide +kernel
theorem dH_consent_56 : decode prog_1_method_12_code 56 = .ok (.iload_n 2, 1) := by decide +kernel
theorem dH_consent_57 : decode prog_1_method_12_code 57 = .ok (.invokestatic 186, 3) := by decide +kernel
theorem dH_consent_60 : decode prog_1_method_12_code 60 = .ok (.iconst (-1), 1) := by decide +kernel
theorem dH_consent_61 : decode prog_1_method_12_code 61 = .ok (.ixor, 1) := by decide +kernel
theorem dH_consent_62 : decode prog_1_method_12_code 62 = .ok (.iand, 1) := by decide +kernel
theorem dH_consent_63 : decode prog_1_method_12_code 63 = .ok (.putfield 183, 3) := by decide +kernel
theorem dH_consent_66 : decode prog_1_method_12_code 66 = .ok (.iconst 1, 1) := by decide +kernel
theorem dH_consent_67 : decode prog_1_method_12_code 67 = .ok (.ireturn, 1) := by decide +kernel
theorem dH_stage_0 : decode prog_1_method_13_code 0 = .ok (.aload_n 0, 1) := by decide +kernel
theorem dH_stage_1 : decode prog_1_method_13_code 1 = .ok (.iload_n 1, 1) := by decide +kernel
theorem dH_stage_2 : decode prog_1_method_13_code 2 = .ok (.invokevirtual 60, 3) := by decide +kernel
theorem dH_stage_5 : decode prog_1_method_13_code 5 = .ok (.astore_n 2, 1) := by decide +kernel
theorem dH_stage_6 : decode prog_1_method_13_code 6 = .ok (.aload_n 2, 1) := by decide +kernel
theorem dH_stage_7 : decode prog_1_method_13_code 7 = .ok (.ifnonnull 7, 3) := by decide +kernel
theorem dH_stage_10 : decode prog_1_method_13_code 10 = .ok (.iconst (-1), 1) := by decide +kernel
theorem dH_stage_11 : decode prog_1_method_13_code 11 = .ok (.goto 7, 3) := by decide +kernel
theorem dH_stage_14 : decode prog_1_method_13_code 14 = .ok (.aload_n 2, 1) := by decide +kernel
theorem dH_stage_15 : decode prog_1_method_13_code 15 = .ok (.getfield 68, 3) := by decide +kernel
theorem dH_stage_18 : decode prog_1_method_13_code 18 = .ok (.ireturn, 1) := by decide +kernel
theorem dH_signatures_0 : decode prog_1_method_14_code 0 = .ok (.aload_n 0, 1) := by decide +kernel
theorem dH_signatures_1 : decode prog_1_method_14_code 1 = .ok (.iload_n 1, 1) := by decide +kernel
theorem dH_signatures_2 : decode prog_1_method_14_code 2 = .ok (.invokevirtual 60, 3) := by decide +kernel
theorem dH_signatures_5 : decode prog_1_method_14_code 5 = .ok (.astore_n 3, 1) := by decide +kernel
theorem dH_signatures_6 : decode prog_1_method_14_code 6 = .ok (.aload_n 3, 1) := by decide +kernel
theorem dH_signatures_7 : decode prog_1_method_14_code 7 = .ok (.ifnonnull 5, 3) := by decide +kernel
theorem dH_signatures_10 : decode prog_1_method_14_code 10 = .ok (.iconst (-1), 1) := by decide +kernel
theorem dH_signatures_11 : decode prog_1_method_14_code 11 = .ok (.ireturn, 1) := by decide +kernel
theorem dH_signatures_12 : decode prog_1_method_14_code 12 = .ok (.iload_n 2, 1) := by decide +kernel
theorem dH_signatures_13 : decode prog_1_method_14_code 13 = .ok (.ifCond .eq 10, 3) := by decide +kernel
theorem dH_signatures_16 : decode prog_1_method_14_code 16 = .ok (.aload_n 3, 1) := by decide +kernel
theorem dH_signatures_17 : decode prog_1_method_14_code 17 = .ok (.invokevirtual 190, 3) := by decide +kernel
theorem dH_signatures_20 : decode prog_1_method_14_code 20 = .ok (.goto 7, 3) := by decide +kernel
theorem dH_signatures_23 : decode prog_1_method_14_code 23 = .ok (.aload_n 3, 1) := by decide +kernel
theorem dH_signatures_24 : decode prog_1_method_14_code 24 = .ok (.getfield 193, 3) := by decide +kernel
theorem dH_signatures_27 : decode prog_1_method_14_code 27 = .ok (.ireturn, 1) := by decide +kernel
theorem dH_verdict_0 : decode prog_1_method_15_code 0 = .ok (.aload_n 0, 1) := by decide +kernel
theorem dH_verdict_1 : decode prog_1_method_15_code 1 = .ok (.iload_n 1, 1) := by decide +kernel
theorem dH_verdict_2 : decode prog_1_method_15_code 2 = .ok (.invokevirtual 60, 3) := by decide +kernel
theorem dH_verdict_5 : decode prog_1_method_15_code 5 = .ok (.astore_n 2, 1) := by decide +kernel
theorem dH_verdict_6 : decode prog_1_method_15_code 6 = .ok (.aload_n 2, 1) := by decide +kernel
theorem dH_verdict_7 : decode prog_1_method_15_code 7 = .ok (.ifnonnull 7, 3) := by decide +kernel
theorem dH_verdict_10 : decode prog_1_method_15_code 10 = .ok (.iconst (-1), 1) := by decide +kernel
theorem dH_verdict_11 : decode prog_1_method_15_code 11 = .ok (.goto 7, 3) := by decide +kernel
theorem dH_verdict_14 : decode prog_1_method_15_code 14 = .ok (.aload_n 2, 1) := by decide +kernel
theorem dH_verdict_15 : decode prog_1_method_15_code 15 = .ok (.getfield 196, 3) := by decide +kernel
theorem dH_verdict_18 : decode prog_1_method_15_code 18 = .ok (.ireturn, 1) := by decide +kernel
theorem dH_spender_0 : decode prog_1_method_16_code 0 = .ok (.aload_n 0, 1) := by decide +kernel
theorem dH_spender_1 : decode prog_1_method_16_code 1 = .ok (.iload_n 1, 1) := by decide +kernel
theorem dH_spender_2 : decode prog_1_method_16_code 2 = .ok (.iload_n 2, 1) := by decide +kernel
theorem dH_spender_3 : decode prog_1_method_16_code 3 = .ok (.invokevirtual 64, 3) := by decide +kernel
theorem dH_spender_6 : decode prog_1_method_16_code 6 = .ok (.astore_n 3, 1) := by decide +kernel
theorem dH_spender_7 : decode prog_1_method_16_code 7 = .ok (.aload_n 3, 1) := by decide +kernel
theorem dH_spender_8 : decode prog_1_method_16_code 8 = .ok (.ifnonnull 7, 3) := by decide +kernel
theorem dH_spender_11 : decode prog_1_method_16_code 11 = .ok (.iconst (-1), 1) := by decide +kernel
theorem dH_spender_12 : decode prog_1_method_16_code 12 = .ok (.goto 12, 3) := by decide +kernel
theorem dH_spender_15 : decode prog_1_method_16_code 15 = .ok (.aload_n 0, 1) := by decide +kernel
theorem dH_spender_16 : decode prog_1_method_16_code 16 = .ok (.getfield 29, 3) := by decide +kernel
theorem dH_spender_19 : decode prog_1_method_16_code 19 = .ok (.aload_n 3, 1) := by decide +kernel
theorem dH_spender_20 : decode prog_1_method_16_code 20 = .ok (.getfield 88, 3) := by decide +kernel
theorem dH_spender_23 : decode prog_1_method_16_code 23 = .ok (.iaload, 1) := by decide +kernel
theorem dH_spender_24 : decode prog_1_method_16_code 24 = .ok (.ireturn, 1) := by decide +kernel
theorem dH_standing_0 : decode prog_1_method_17_code 0 = .ok (.iload_n 1, 1) := by decide +kernel
theorem dH_standing_1 : decode prog_1_method_17_code 1 = .ok (.invokestatic 45, 3) := by decide +kernel
theorem dH_standing_4 : decode prog_1_method_17_code 4 = .ok (.ifCond .eq 11, 3) := by decide +kernel
theorem dH_standing_7 : decode prog_1_method_17_code 7 = .ok (.aload_n 0, 1) := by decide +kernel
theorem dH_standing_8 : decode prog_1_method_17_code 8 = .ok (.iload_n 2, 1) := by decide +kernel
theorem dH_standing_9 : decode prog_1_method_17_code 9 = .ok (.invokevirtual 60, 3) := by decide +kernel
theorem dH_standing_12 : decode prog_1_method_17_code 12 = .ok (.ifnonnull 5, 3) := by decide +kernel
theorem dH_standing_15 : decode prog_1_method_17_code 15 = .ok (.iconst (-1), 1) := by decide +kernel
theorem dH_standing_16 : decode prog_1_method_17_code 16 = .ok (.ireturn, 1) := by decide +kernel
theorem dH_standing_17 : decode prog_1_method_17_code 17 = .ok (.aload_n 0, 1) := by decide +kernel
theorem dH_standing_18 : decode prog_1_method_17_code 18 = .ok (.getfield 17, 3) := by decide +kernel
theorem dH_standing_21 : decode prog_1_method_17_code 21 = .ok (.iload_n 1, 1) := by decide +kernel
theorem dH_standing_22 : decode prog_1_method_17_code 22 = .ok (.aaload, 1) := by decide +kernel
theorem dH_standing_23 : decode prog_1_method_17_code 23 = .ok (.getfield 199, 3) := by decide +kernel
theorem dH_standing_26 : decode prog_1_method_17_code 26 = .ok (.iload_n 2, 1) := by decide +kernel
theorem dH_standing_27 : decode prog_1_method_17_code 27 = .ok (.invokestatic 77, 3) := by decide +kernel
theorem dH_standing_30 : decode prog_1_method_17_code 30 = .ok (.ifCond .eq 5, 3) := by decide +kernel
theorem dH_standing_33 : decode prog_1_method_17_code 33 = .ok (.iconst 2, 1) := by decide +kernel
theorem dH_standing_34 : decode prog_1_method_17_code 34 = .ok (.ireturn, 1) := by decide +kernel
theorem dH_standing_35 : decode prog_1_method_17_code 35 = .ok (.aload_n 0, 1) := by decide +kernel
theorem dH_standing_36 : decode prog_1_method_17_code 36 = .ok (.getfield 17, 3) := by decide +kernel
theorem dH_standing_39 : decode prog_1_method_17_code 39 = .ok (.iload_n 1, 1) := by decide +kernel
theorem dH_standing_40 : decode prog_1_method_17_code 40 = .ok (.aaload, 1) := by decide +kernel
theorem dH_standing_41 : decode prog_1_method_17_code 41 = .ok (.getfield 74, 3) := by decide +kernel
theorem dH_standing_44 : decode prog_1_method_17_code 44 = .ok (.iload_n 2, 1) := by decide +kernel
theorem dH_standing_45 : decode prog_1_method_17_code 45 = .ok (.invokestatic 77, 3) := by decide +kernel
theorem dH_standing_48 : decode prog_1_method_17_code 48 = .ok (.ifCond .eq 7, 3) := by decide +kernel
theorem dH_standing_51 : decode prog_1_method_17_code 51 = .ok (.iconst 1, 1) := by decide +kernel
theorem dH_standing_52 : decode prog_1_method_17_code 52 = .ok (.goto 4, 3) := by decide +kernel
theorem dH_standing_55 : decode prog_1_method_17_code 55 = .ok (.iconst 0, 1) := by decide +kernel
theorem dH_standing_56 : decode prog_1_method_17_code 56 = .ok (.ireturn, 1) := by decide +kernel
theorem dH_vault_0 : decode prog_1_method_18_code 0 = .ok (.iload_n 1, 1) := by decide +kernel
theorem dH_vault_1 : decode prog_1_method_18_code 1 = .ok (.invokestatic 45, 3) := by decide +kernel
theorem dH_vault_4 : decode prog_1_method_18_code 4 = .ok (.ifCond .eq 8, 3) := by decide +kernel
theorem dH_vault_7 : decode prog_1_method_18_code 7 = .ok (.iload_n 2, 1) := by decide +kernel
theorem dH_vault_8 : decode prog_1_method_18_code 8 = .ok (.iconst (-1), 1) := by decide +kernel
theorem dH_vault_9 : decode prog_1_method_18_code 9 = .ok (.if_icmp .ge 5, 3) := by decide +kernel
theorem dH_vault_12 : decode prog_1_method_18_code 12 = .ok (.iconst (-1), 1) := by decide +kernel
theorem dH_vault_13 : decode prog_1_method_18_code 13 = .ok (.ireturn, 1) := by decide +kernel
theorem dH_vault_14 : decode prog_1_method_18_code 14 = .ok (.iconst 0, 1) := by decide +kernel
theorem dH_vault_15 : decode prog_1_method_18_code 15 = .ok (.istore_n 3, 1) := by decide +kernel
theorem dH_vault_16 : decode prog_1_method_18_code 16 = .ok (.iconst 0, 1) := by decide +kernel
theorem dH_vault_17 : decode prog_1_method_18_code 17 = .ok (.istore 4, 2) := by decide +kernel
theorem dH_vault_19 : decode prog_1_method_18_code 19 = .ok (.iload 4, 2) := by decide +kernel
theorem dH_vault_21 : decode prog_1_method_18_code 21 = .ok (.aload_n 0, 1) := by decide +kernel
theorem dH_vault_22 : decode prog_1_method_18_code 22 = .ok (.invokevirtual 122, 3) := by decide +kernel
theorem dH_vault_25 : decode prog_1_method_18_code 25 = .ok (.if_icmp .ge 43, 3) := by decide +kernel
theorem dH_vault_28 : decode prog_1_method_18_code 28 = .ok (.aload_n 0, 1) := by decide +kernel
theorem dH_vault_29 : decode prog_1_method_18_code 29 = .ok (.iload 4, 2) := by decide +kernel
theorem dH_vault_31 : decode prog_1_method_18_code 31 = .ok (.invokevirtual 126, 3) := by decide +kernel
theorem dH_vault_34 : decode prog_1_method_18_code 34 = .ok (.astore 5, 2) := by decide +kernel
theorem dH_vault_36 : decode prog_1_method_18_code 36 = .ok (.aload 5, 2) := by decide +kernel
theorem dH_vault_38 : decode prog_1_method_18_code 38 = .ok (.ifnull 24, 3) := by decide +kernel
theorem dH_vault_41 : decode prog_1_method_18_code 41 = .ok (.aload_n 0, 1) := by decide +kernel
theorem dH_vault_42 : decode prog_1_method_18_code 42 = .ok (.aload 5, 2) := by decide +kernel
theorem dH_vault_44 : decode prog_1_method_18_code 44 = .ok (.iload_n 1, 1) := by decide +kernel
theorem dH_vault_45 : decode prog_1_method_18_code 45 = .ok (.invokevirtual 202, 3) := by decide +kernel
theorem dH_vault_48 : decode prog_1_method_18_code 48 = .ok (.ifCond .eq 14, 3) := by decide +kernel
theorem dH_vault_51 : decode prog_1_method_18_code 51 = .ok (.iload_n 3, 1) := by decide +kernel
theorem dH_vault_52 : decode prog_1_method_18_code 52 = .ok (.iload_n 2, 1) := by decide +kernel
theorem dH_vault_53 : decode prog_1_method_18_code 53 = .ok (.if_icmp .ne 6, 3) := by decide +kernel
theorem dH_vault_56 : decode prog_1_method_18_code 56 = .ok (.iload 4, 2) := by decide +kernel
theorem dH_vault_58 : decode prog_1_method_18_code 58 = .ok (.ireturn, 1) := by decide +kernel
theorem dH_vault_59 : decode prog_1_method_18_code 59 = .ok (.iinc 3 1, 3) := by decide +kernel
theorem dH_vault_62 : decode prog_1_method_18_code 62 = .ok (.iinc 4 1, 3) := by decide +kernel
theorem dH_vault_65 : decode prog_1_method_18_code 65 = .ok (.goto (-46), 3) := by decide +kernel
theorem dH_vault_68 : decode prog_1_method_18_code 68 = .ok (.iload_n 2, 1) := by decide +kernel
theorem dH_vault_69 : decode prog_1_method_18_code 69 = .ok (.iconst (-1), 1) := by decide +kernel
theorem dH_vault_70 : decode prog_1_method_18_code 70 = .ok (.if_icmp .ne 7, 3) := by decide +kernel
theorem dH_vault_73 : decode prog_1_method_18_code 73 = .ok (.iload_n 3, 1) := by decide +kernel
theorem dH_vault_74 : decode prog_1_method_18_code 74 = .ok (.goto 4, 3) := by decide +kernel
theorem dH_vault_77 : decode prog_1_method_18_code 77 = .ok (.iconst (-1), 1) := by decide +kernel
theorem dH_vault_78 : decode prog_1_method_18_code 78 = .ok (.ireturn, 1) := by decide +kernel
theorem dH_balance_0 : decode prog_1_method_19_code 0 = .ok (.iload_n 1, 1) := by decide +kernel
theorem dH_balance_1 : decode prog_1_method_19_code 1 = .ok (.invokestatic 45, 3) := by decide +kernel
theorem dH_balance_4 : decode prog_1_method_19_code 4 = .ok (.ifCond .eq 10, 3) := by decide +kernel
theorem dH_balance_7 : decode prog_1_method_19_code 7 = .ok (.iload_n 2, 1) := by decide +kernel
theorem dH_balance_8 : decode prog_1_method_19_code 8 = .ok (.invokestatic 45, 3) := by decide +kernel
theorem dH_balance_11 : decode prog_1_method_19_code 11 = .ok (.ifCond .ne 5, 3) := by decide +kernel
theorem dH_balance_14 : decode prog_1_method_19_code 14 = .ok (.iconst (-1), 1) := by decide +kernel
theorem dH_balance_15 : decode prog_1_method_19_code 15 = .ok (.ireturn, 1) := by decide +kernel
theorem dH_balance_16 : decode prog_1_method_19_code 16 = .ok (.iconst 0, 1) := by decide +kernel
theorem dH_balance_17 : decode prog_1_method_19_code 17 = .ok (.istore_n 3, 1) := by decide +kernel
theorem dH_balance_18 : decode prog_1_method_19_code 18 = .ok (.iconst 0, 1) := by decide +kernel
theorem dH_balance_19 : decode prog_1_method_19_code 19 = .ok (.istore 4, 2) := by decide +kernel
theorem dH_balance_21 : decode prog_1_method_19_code 21 = .ok (.iload 4, 2) := by decide +kernel
theorem dH_balance_23 : decode prog_1_method_19_code 23 = .ok (.aload_n 0, 1) := by decide +kernel
theorem dH_balance_24 : decode prog_1_method_19_code 24 = .ok (.invokevirtual 122, 3) := by decide +kernel
theorem dH_balance_27 : decode prog_1_method_19_code 27 = .ok (.if_icmp .ge 49, 3) := by decide +kernel
theorem dH_balance_30 : decode prog_1_method_19_code 30 = .ok (.aload_n 0, 1) := by decide +kernel
theorem dH_balance_31 : decode prog_1_method_19_code 31 = .ok (.iload 4, 2) := by decide +kernel
theorem dH_balance_33 : decode prog_1_method_19_code 33 = .ok (.invokevirtual 126, 3) := by decide +kernel
theorem dH_balance_36 : decode prog_1_method_19_code 36 = .ok (.astore 5, 2) := by decide +kernel
theorem dH_balance_38 : decode prog_1_method_19_code 38 = .ok (.aload 5, 2) := by decide +kernel
theorem dH_balance_40 : decode prog_1_method_19_code 40 = .ok (.ifnull 30, 3) := by decide +kernel
theorem dH_balance_43 : decode prog_1_method_19_code 43 = .ok (.aload 5, 2) := by decide +kernel
theorem dH_balance_45 : decode prog_1_method_19_code 45 = .ok (.iload_n 2, 1) := by decide +kernel
theorem dH_balance_46 : decode prog_1_method_19_code 46 = .ok (.invokevirtual 206, 3) := by decide +kernel
theorem dH_balance_49 : decode prog_1_method_19_code 49 = .ok (.ifCond .eq 21, 3) := by decide +kernel
theorem dH_balance_52 : decode prog_1_method_19_code 52 = .ok (.aload_n 0, 1) := by decide +kernel
theorem dH_balance_53 : decode prog_1_method_19_code 53 = .ok (.aload 5, 2) := by decide +kernel
theorem dH_balance_55 : decode prog_1_method_19_code 55 = .ok (.iload_n 1, 1) := by decide +kernel
theorem dH_balance_56 : decode prog_1_method_19_code 56 = .ok (.invokevirtual 202, 3) := by decide +kernel
theorem dH_balance_59 : decode prog_1_method_19_code 59 = .ok (.ifCond .eq 11, 3) := by decide +kernel
theorem dH_balance_62 : decode prog_1_method_19_code 62 = .ok (.iload_n 3, 1) := by decide +kernel
theorem dH_balance_63 : decode prog_1_method_19_code 63 = .ok (.aload 5, 2) := by decide +kernel
theorem dH_balance_65 : decode prog_1_method_19_code 65 = .ok (.getfield 134, 3) := by decide +kernel
theorem dH_balance_68 : decode prog_1_method_19_code 68 = .ok (.iadd, 1) := by decide +kernel
theorem dH_balance_69 : decode prog_1_method_19_code 69 = .ok (.istore_n 3, 1) := by decide +kernel
theorem dH_balance_70 : decode prog_1_method_19_code 70 = .ok (.iinc 4 1, 3) := by decide +kernel
theorem dH_balance_73 : decode prog_1_method_19_code 73 = .ok (.goto (-52), 3) := by decide +kernel
theorem dH_balance_76 : decode prog_1_method_19_code 76 = .ok (.iload_n 3, 1) := by decide +kernel
theorem dH_balance_77 : decode prog_1_method_19_code 77 = .ok (.ireturn, 1) := by decide +kernel
theorem dH_fetched_0 : decode prog_1_method_20_code 0 = .ok (.iload_n 1, 1) := by decide +kernel
theorem dH_fetched_1 : decode prog_1_method_20_code 1 = .ok (.invokestatic 45, 3) := by decide +kernel
theorem dH_fetched_4 : decode prog_1_method_20_code 4 = .ok (.ifCond .eq 15, 3) := by decide +kernel
theorem dH_fetched_7 : decode prog_1_method_20_code 7 = .ok (.aload_n 0, 1) := by decide +kernel
theorem dH_fetched_8 : decode prog_1_method_20_code 8 = .ok (.getfield 17, 3) := by decide +kernel
theorem dH_fetched_11 : decode prog_1_method_20_code 11 = .ok (.iload_n 1, 1) := by decide +kernel
theorem dH_fetched_12 : decode prog_1_method_20_code 12 = .ok (.aaload, 1) := by decide +kernel
theorem dH_fetched_13 : decode prog_1_method_20_code 13 = .ok (.getfield 209, 3) := by decide +kernel
theorem dH_fetched_16 : decode prog_1_method_20_code 16 = .ok (.goto 4, 3) := by decide +kernel
theorem dH_fetched_19 : decode prog_1_method_20_code 19 = .ok (.iconst (-1), 1) := by decide +kernel
theorem dH_fetched_20 : decode prog_1_method_20_code 20 = .ok (.ireturn, 1) := by decide +kernel
theorem dH_tree_0 : decode prog_1_method_21_code 0 = .ok (.aload_n 0, 1) := by decide +kernel
theorem dH_tree_1 : decode prog_1_method_21_code 1 = .ok (.iload_n 1, 1) := by decide +kernel
theorem dH_tree_2 : decode prog_1_method_21_code 2 = .ok (.invokevirtual 60, 3) := by decide +kernel
theorem dH_tree_5 : decode prog_1_method_21_code 5 = .ok (.astore 4, 2) := by decide +kernel
theorem dH_tree_7 : decode prog_1_method_21_code 7 = .ok (.aload 4, 2) := by decide +kernel
theorem dH_tree_9 : decode prog_1_method_21_code 9 = .ok (.ifnull 24, 3) := by decide +kernel
theorem dH_tree_12 : decode prog_1_method_21_code 12 = .ok (.iload_n 2, 1) := by decide +kernel
theorem dH_tree_13 : decode prog_1_method_21_code 13 = .ok (.ifCond .lt 20, 3) := by decide +kernel
theorem dH_tree_16 : decode prog_1_method_21_code 16 = .ok (.iload_n 2, 1) := by decide +kernel
theorem dH_tree_17 : decode prog_1_method_21_code 17 = .ok (.iconst 4, 1) := by decide +kernel
theorem dH_tree_18 : decode prog_1_method_21_code 18 = .ok (.if_icmp .gt 15, 3) := by decide +kernel
theorem dH_tree_21 : decode prog_1_method_21_code 21 = .ok (.iload_n 3, 1) := by decide +kernel
theorem dH_tree_22 : decode prog_1_method_21_code 22 = .ok (.ifCond .lt 11, 3) := by decide +kernel
theorem dH_tree_25 : decode prog_1_method_21_code 25 = .ok (.iload_n 3, 1) := by decide +kernel
theorem dH_tree_26 : decode prog_1_method_21_code 26 = .ok (.bipush 16, 2) := by decide +kernel
theorem dH_tree_28 : decode prog_1_method_21_code 28 = .ok (.iload_n 2, 1) := by decide +kernel
theorem dH_tree_29 : decode prog_1_method_21_code 29 = .ok (.ishr, 1) := by decide +kernel
theorem dH_tree_30 : decode prog_1_method_21_code 30 = .ok (.if_icmp .lt 5, 3) := by decide +kernel
theorem dH_tree_33 : decode prog_1_method_21_code 33 = .ok (.iconst 0, 1) := by decide +kernel
theorem dH_tree_34 : decode prog_1_method_21_code 34 = .ok (.ireturn, 1) := by decide +kernel
theorem dH_tree_35 : decode prog_1_method_21_code 35 = .ok (.iconst 0, 1) := by decide +kernel
theorem dH_tree_36 : decode prog_1_method_21_code 36 = .ok (.istore 5, 2) := by decide +kernel
theorem dH_tree_38 : decode prog_1_method_21_code 38 = .ok (.iload 5, 2) := by decide +kernel
theorem dH_tree_40 : decode prog_1_method_21_code 40 = .ok (.bipush 16, 2) := by decide +kernel
theorem dH_tree_42 : decode prog_1_method_21_code 42 = .ok (.if_icmp .ge 23, 3) := by decide +kernel
theorem dH_tree_45 : decode prog_1_method_21_code 45 = .ok (.aload_n 0, 1) := by decide +kernel
theorem dH_tree_46 : decode prog_1_method_21_code 46 = .ok (.getfield 42, 3) := by decide +kernel
theorem dH_tree_49 : decode prog_1_method_21_code 49 = .ok (.iload 5, 2) := by decide +kernel
theorem dH_tree_51 : decode prog_1_method_21_code 51 = .ok (.aload 4, 2) := by decide +kernel
theorem dH_tree_53 : decode prog_1_method_21_code 53 = .ok (.iload 5, 2) := by decide +kernel
theorem dH_tree_55 : decode prog_1_method_21_code 55 = .ok (.invokevirtual 212, 3) := by decide +kernel
theorem dH_tree_58 : decode prog_1_method_21_code 58 = .ok (.iastore, 1) := by decide +kernel
theorem dH_tree_59 : decode prog_1_method_21_code 59 = .ok (.iinc 5 1, 3) := by decide +kernel
theorem dH_tree_62 : decode prog_1_method_21_code 62 = .ok (.goto (-24), 3) := by decide +kernel
theorem dH_tree_65 : decode prog_1_method_21_code 65 = .ok (.iconst 1, 1) := by decide +kernel
theorem dH_tree_66 : decode prog_1_method_21_code 66 = .ok (.istore 5, 2) := by decide +kernel
theorem dH_tree_68 : decode prog_1_method_21_code 68 = .ok (.iload 5, 2) := by decide +kernel
theorem dH_tree_70 : decode prog_1_method_21_code 70 = .ok (.iload_n 2, 1) := by decide +kernel
theorem dH_tree_71 : decode prog_1_method_21_code 71 = .ok (.if_icmp .gt 58, 3) := by decide +kernel
theorem dH_tree_74 : decode prog_1_method_21_code 74 = .ok (.iconst 0, 1) := by decide +kernel
theorem dH_tree_75 : decode prog_1_method_21_code 75 = .ok (.istore 6, 2) := by decide +kernel
theorem dH_tree_77 : decode prog_1_method_21_code 77 = .ok (.iload 6, 2) := by decide +kernel
theorem dH_tree_79 : decode prog_1_method_21_code 79 = .ok (.bipush 16, 2) := by decide +kernel
theorem dH_tree_81 : decode prog_1_method_21_code 81 = .ok (.iload 5, 2) := by decide +kernel
theorem dH_tree_83 : decode prog_1_method_21_code 83 = .ok (.ishr, 1) := by decide +kernel
theorem dH_tree_84 : decode prog_1_method_21_code 84 = .ok (.if_icmp .ge 39, 3) := by decide +kernel
theorem dH_tree_87 : decode prog_1_method_21_code 87 = .ok (.aload_n 0, 1) := by decide +kernel
theorem dH_tree_88 : decode prog_1_method_21_code 88 = .ok (.getfield 42, 3) := by decide +kernel
theorem dH_tree_91 : decode prog_1_method_21_code 91 = .ok (.iload 6, 2) := by decide +kernel
theorem dH_tree_93 : decode prog_1_method_21_code 93 = .ok (.aload_n 0, 1) := by decide +kernel
theorem dH_tree_94 : decode prog_1_method_21_code 94 = .ok (.getfield 42, 3) := by decide +kernel
theorem dH_tree_97 : decode prog_1_method_21_code 97 = .ok (.iconst 2, 1) := by decide +kernel
theorem dH_tree_98 : decode prog_1_method_21_code 98 = .ok (.iload 6, 2) := by decide +kernel
theorem dH_tree_100 : decode prog_1_method_21_code 100 = .ok (.imul, 1) := by decide +kernel
theorem dH_tree_101 : decode prog_1_method_21_code 101 = .ok (.iaload, 1) := by decide +kernel
theorem dH_tree_102 : decode prog_1_method_21_code 102 = .ok (.aload_n 0, 1) := by decide +kernel
theorem dH_tree_103 : decode prog_1_method_21_code 103 = .ok (.getfield 42, 3) := by decide +kernel
theorem dH_tree_106 : decode prog_1_method_21_code 106 = .ok (.iconst 2, 1) := by decide +kernel
theorem dH_tree_107 : decode prog_1_method_21_code 107 = .ok (.iload 6, 2) := by decide +kernel
theorem dH_tree_109 : decode prog_1_method_21_code 109 = .ok (.imul, 1) := by decide +kernel
theorem dH_tree_110 : decode prog_1_method_21_code 110 = .ok (.iconst 1, 1) := by decide +kernel
theorem dH_tree_111 : decode prog_1_method_21_code 111 = .ok (.iadd, 1) := by decide +kernel
theorem dH_tree_112 : decode prog_1_method_21_code 112 = .ok (.iaload, 1) := by decide +kernel
theorem dH_tree_113 : decode prog_1_method_21_code 113 = .ok (.invokestatic 215, 3) := by decide +kernel
theorem dH_tree_116 : decode prog_1_method_21_code 116 = .ok (.iastore, 1) := by decide +kernel
theorem dH_tree_117 : decode prog_1_method_21_code 117 = .ok (.iinc 6 1, 3) := by decide +kernel
theorem dH_tree_120 : decode prog_1_method_21_code 120 = .ok (.goto (-43), 3) := by decide +kernel
theorem dH_tree_123 : decode prog_1_method_21_code 123 = .ok (.iinc 5 1, 3) := by decide +kernel
theorem dH_tree_126 : decode prog_1_method_21_code 126 = .ok (.goto (-58), 3) := by decide +kernel
theorem dH_tree_129 : decode prog_1_method_21_code 129 = .ok (.aload_n 0, 1) := by decide +kernel
theorem dH_tree_130 : decode prog_1_method_21_code 130 = .ok (.getfield 42, 3) := by decide +kernel
theorem dH_tree_133 : decode prog_1_method_21_code 133 = .ok (.iload_n 3, 1) := by decide +kernel
theorem dH_tree_134 : decode prog_1_method_21_code 134 = .ok (.iaload, 1) := by decide +kernel
theorem dH_tree_135 : decode prog_1_method_21_code 135 = .ok (.ireturn, 1) := by decide +kernel
theorem dT_leaf_0 : decode prog_6_method_15_code 0 = .ok (.iload_n 1, 1) := by decide +kernel
theorem dT_leaf_1 : decode prog_6_method_15_code 1 = .ok (.tableswitch 126 0 15 #[79, 84, 89, 94, 94, 94, 94, 102, 107, 107, 107, 107, 116, 126, 126, 121], 79) := by decide +kernel
theorem dT_leaf_80 : decode prog_6_method_15_code 80 = .ok (.aload_n 0, 1) := by decide +kernel
theorem dT_leaf_81 : decode prog_6_method_15_code 81 = .ok (.getfield 18, 3) := by decide +kernel
theorem dT_leaf_84 : decode prog_6_method_15_code 84 = .ok (.ireturn, 1) := by decide +kernel
theorem dT_leaf_85 : decode prog_6_method_15_code 85 = .ok (.aload_n 0, 1) := by decide +kernel
theorem dT_leaf_86 : decode prog_6_method_15_code 86 = .ok (.getfield 21, 3) := by decide +kernel
theorem dT_leaf_89 : decode prog_6_method_15_code 89 = .ok (.ireturn, 1) := by decide +kernel
theorem dT_leaf_90 : decode prog_6_method_15_code 90 = .ok (.aload_n 0, 1) := by decide +kernel
theorem dT_leaf_91 : decode prog_6_method_15_code 91 = .ok (.getfield 24, 3) := by decide +kernel
theorem dT_leaf_94 : decode prog_6_method_15_code 94 = .ok (.ireturn, 1) := by decide +kernel
theorem dT_leaf_95 : decode prog_6_method_15_code 95 = .ok (.aload_n 0, 1) := by decide +kernel
theorem dT_leaf_96 : decode prog_6_method_15_code 96 = .ok (.iload_n 1, 1) := by decide +kernel
theorem dT_leaf_97 : decode prog_6_method_15_code 97 = .ok (.iconst 3, 1) := by decide +kernel
theorem dT_leaf_98 : decode prog_6_method_15_code 98 = .ok (.isub, 1) := by decide +kernel
theorem dT_leaf_99 : decode prog_6_method_15_code 99 = .ok (.invokevirtual 147, 3) := by decide +kernel
theorem dT_leaf_102 : decode prog_6_method_15_code 102 = .ok (.ireturn, 1) := by decide +kernel
theorem dT_leaf_103 : decode prog_6_method_15_code 103 = .ok (.aload_n 0, 1) := by decide +kernel
theorem dT_leaf_104 : decode prog_6_method_15_code 104 = .ok (.getfield 15, 3) := by decide +kernel
theorem dT_leaf_107 : decode prog_6_method_15_code 107 = .ok (.ireturn, 1) := by decide +kernel
theorem dT_leaf_108 : decode prog_6_method_15_code 108 = .ok (.aload_n 0, 1) := by decide +kernel
theorem dT_leaf_109 : decode prog_6_method_15_code 109 = .ok (.iload_n 1, 1) := by decide +kernel
theorem dT_leaf_110 : decode prog_6_method_15_code 110 = .ok (.bipush 8, 2) := by decide +kernel
theorem dT_leaf_112 : decode prog_6_method_15_code 112 = .ok (.isub, 1) := by decide +kernel
theorem dT_leaf_113 : decode prog_6_method_15_code 113 = .ok (.invokevirtual 150, 3) := by decide +kernel
theorem dT_leaf_116 : decode prog_6_method_15_code 116 = .ok (.ireturn, 1) := by decide +kernel
theorem dT_leaf_117 : decode prog_6_method_15_code 117 = .ok (.aload_n 0, 1) := by decide +kernel
theorem dT_leaf_118 : decode prog_6_method_15_code 118 = .ok (.invokevirtual 75, 3) := by decide +kernel
theorem dT_leaf_121 : decode prog_6_method_15_code 121 = .ok (.ireturn, 1) := by decide +kernel
theorem dT_leaf_122 : decode prog_6_method_15_code 122 = .ok (.aload_n 0, 1) := by decide +kernel
theorem dT_leaf_123 : decode prog_6_method_15_code 123 = .ok (.getfield 9, 3) := by decide +kernel
theorem dT_leaf_126 : decode prog_6_method_15_code 126 = .ok (.ireturn, 1) := by decide +kernel
theorem dT_leaf_127 : decode prog_6_method_15_code 127 = .ok (.iconst 0, 1) := by decide +kernel
theorem dT_leaf_128 : decode prog_6_method_15_code 128 = .ok (.ireturn, 1) := by decide +kernel
theorem dT_inputLeaf_0 : decode prog_6_method_16_code 0 = .ok (.iload_n 1, 1) := by decide +kernel
theorem dT_inputLeaf_1 : decode prog_6_method_16_code 1 = .ok (.ifCond .lt 31, 3) := by decide +kernel
theorem dT_inputLeaf_4 : decode prog_6_method_16_code 4 = .ok (.iload_n 1, 1) := by decide +kernel
theorem dT_inputLeaf_5 : decode prog_6_method_16_code 5 = .ok (.aload_n 0, 1) := by decide +kernel
theorem dT_inputLeaf_6 : decode prog_6_method_16_code 6 = .ok (.getfield 30, 3) := by decide +kernel
theorem dT_inputLeaf_9 : decode prog_6_method_16_code 9 = .ok (.getfield 56, 3) := by decide +kernel
theorem dT_inputLeaf_12 : decode prog_6_method_16_code 12 = .ok (.if_icmp .ge 20, 3) := by decide +kernel
theorem dT_inputLeaf_15 : decode prog_6_method_16_code 15 = .ok (.iconst 1, 1) := by decide +kernel
theorem dT_inputLeaf_16 : decode prog_6_method_16_code 16 = .ok (.aload_n 0, 1) := by decide +kernel
theorem dT_inputLeaf_17 : decode prog_6_method_16_code 17 = .ok (.getfield 30, 3) := by decide +kernel
theorem dT_inputLeaf_20 : decode prog_6_method_16_code 20 = .ok (.getfield 93, 3) := by decide +kernel
theorem dT_inputLeaf_23 : decode prog_6_method_16_code 23 = .ok (.iload_n 1, 1) := by decide +kernel
theorem dT_inputLeaf_24 : decode prog_6_method_16_code 24 = .ok (.aaload, 1) := by decide +kernel
theorem dT_inputLeaf_25 : decode prog_6_method_16_code 25 = .ok (.getfield 153, 3) := by decide +kernel
theorem dT_inputLeaf_28 : decode prog_6_method_16_code 28 = .ok (.iadd, 1) := by decide +kernel
theorem dT_inputLeaf_29 : decode prog_6_method_16_code 29 = .ok (.goto 4, 3) := by decide +kernel
theorem dT_inputLeaf_32 : decode prog_6_method_16_code 32 = .ok (.iconst 0, 1) := by decide +kernel
theorem dT_inputLeaf_33 : decode prog_6_method_16_code 33 = .ok (.ireturn, 1) := by decide +kernel
theorem dT_outputLeaf_0 : decode prog_6_method_17_code 0 = .ok (.iload_n 1, 1) := by decide +kernel
theorem dT_outputLeaf_1 : decode prog_6_method_17_code 1 = .ok (.ifCond .lt 29, 3) := by decide +kernel
theorem dT_outputLeaf_4 : decode prog_6_method_17_code 4 = .ok (.iload_n 1, 1) := by decide +kernel
theorem dT_outputLeaf_5 : decode prog_6_method_17_code 5 = .ok (.aload_n 0, 1) := by decide +kernel
theorem dT_outputLeaf_6 : decode prog_6_method_17_code 6 = .ok (.getfield 34, 3) := by decide +kernel
theorem dT_outputLeaf_9 : decode prog_6_method_17_code 9 = .ok (.getfield 56, 3) := by decide +kernel
theorem dT_outputLeaf_12 : decode prog_6_method_17_code 12 = .ok (.if_icmp .ge 18, 3) := by decide +kernel
theorem dT_outputLeaf_15 : decode prog_6_method_17_code 15 = .ok (.aload_n 0, 1) := by decide +kernel
theorem dT_outputLeaf_16 : decode prog_6_method_17_code 16 = .ok (.getfield 34, 3) := by decide +kernel
theorem dT_outputLeaf_19 : decode prog_6_method_17_code 19 = .ok (.getfield 93, 3) := by decide +kernel
theorem dT_outputLeaf_22 : decode prog_6_method_17_code 22 = .ok (.iload_n 1, 1) := by decide +kernel
theorem dT_outputLeaf_23 : decode prog_6_method_17_code 23 = .ok (.aaload, 1) := by decide +kernel
theorem dT_outputLeaf_24 : decode prog_6_method_17_code 24 = .ok (.invokevirtual 154, 3) := by decide +kernel
theorem dT_outputLeaf_27 : decode prog_6_method_17_code 27 = .ok (.goto 4, 3) := by decide +kernel
theorem dT_outputLeaf_30 : decode prog_6_method_17_code 30 = .ok (.iconst 0, 1) := by decide +kernel
theorem dT_outputLeaf_31 : decode prog_6_method_17_code 31 = .ok (.ireturn, 1) := by decide +kernel
theorem dS_leafValue_0 : decode prog_4_method_9_code 0 = .ok (.iconst 1, 1) := by decide +kernel
theorem dS_leafValue_1 : decode prog_4_method_9_code 1 = .ok (.aload_n 0, 1) := by decide +kernel
theorem dS_leafValue_2 : decode prog_4_method_9_code 2 = .ok (.getfield 15, 3) := by decide +kernel
theorem dS_leafValue_5 : decode prog_4_method_9_code 5 = .ok (.iadd, 1) := by decide +kernel
theorem dS_leafValue_6 : decode prog_4_method_9_code 6 = .ok (.iconst 3, 1) := by decide +kernel
theorem dS_leafValue_7 : decode prog_4_method_9_code 7 = .ok (.aload_n 0, 1) := by decide +kernel
theorem dS_leafValue_8 : decode prog_4_method_9_code 8 = .ok (.getfield 18, 3) := by decide +kernel
theorem dS_leafValue_11 : decode prog_4_method_9_code 11 = .ok (.iconst 4, 1) := by decide +kernel
theorem dS_leafValue_12 : decode prog_4_method_9_code 12 = .ok (.aload_n 0, 1) := by decide +kernel
theorem dS_leafValue_13 : decode prog_4_method_9_code 13 = .ok (.getfield 21, 3) := by decide +kernel
theorem dS_leafValue_16 : decode prog_4_method_9_code 16 = .ok (.iconst 4, 1) := by decide +kernel
theorem dS_leafValue_17 : decode prog_4_method_9_code 17 = .ok (.aload_n 0, 1) := by decide +kernel
theorem dS_leafValue_18 : decode prog_4_method_9_code 18 = .ok (.getfield 24, 3) := by decide +kernel
theorem dS_leafValue_21 : decode prog_4_method_9_code 21 = .ok (.sipush 1024, 3) := by decide +kernel
theorem dS_leafValue_24 : decode prog_4_method_9_code 24 = .ok (.aload_n 0, 1) := by decide +kernel
theorem dS_leafValue_25 : decode prog_4_method_9_code 25 = .ok (.getfield 27, 3) := by decide +kernel
theorem dS_leafValue_28 : decode prog_4_method_9_code 28 = .ok (.iconst 1, 1) := by decide +kernel
theorem dS_leafValue_29 : decode prog_4_method_9_code 29 = .ok (.iadd, 1) := by decide +kernel
theorem dS_leafValue_30 : decode prog_4_method_9_code 30 = .ok (.imul, 1) := by decide +kernel
theorem dS_leafValue_31 : decode prog_4_method_9_code 31 = .ok (.iadd, 1) := by decide +kernel
theorem dS_leafValue_32 : decode prog_4_method_9_code 32 = .ok (.imul, 1) := by decide +kernel
theorem dS_leafValue_33 : decode prog_4_method_9_code 33 = .ok (.iadd, 1) := by decide +kernel
theorem dS_leafValue_34 : decode prog_4_method_9_code 34 = .ok (.imul, 1) := by decide +kernel
theorem dS_leafValue_35 : decode prog_4_method_9_code 35 = .ok (.iadd, 1) := by decide +kernel
theorem dS_leafValue_36 : decode prog_4_method_9_code 36 = .ok (.imul, 1) := by decide +kernel
theorem dS_leafValue_37 : decode prog_4_method_9_code 37 = .ok (.iadd, 1) := by decide +kernel
theorem dS_leafValue_38 : decode prog_4_method_9_code 38 = .ok (.ireturn, 1) := by decide +kernel
theorem dH_mix_0 : decode prog_1_method_50_code 0 = .ok (.bipush 31, 2) := by decide +kernel
theorem dH_mix_2 : decode prog_1_method_50_code 2 = .ok (.iload_n 0, 1) := by decide +kernel
theorem dH_mix_3 : decode prog_1_method_50_code 3 = .ok (.imul, 1) := by decide +kernel
theorem dH_mix_4 : decode prog_1_method_50_code 4 = .ok (.bipush 17, 2) := by decide +kernel
theorem dH_mix_6 : decode prog_1_method_50_code 6 = .ok (.iload_n 1, 1) := by decide +kernel
theorem dH_mix_7 : decode prog_1_method_50_code 7 = .ok (.imul, 1) := by decide +kernel
theorem dH_mix_8 : decode prog_1_method_50_code 8 = .ok (.iadd, 1) := by decide +kernel
theorem dH_mix_9 : decode prog_1_method_50_code 9 = .ok (.bipush 7, 2) := by decide +kernel
theorem dH_mix_11 : decode prog_1_method_50_code 11 = .ok (.iadd, 1) := by decide +kernel
theorem dH_mix_12 : decode prog_1_method_50_code 12 = .ok (.istore_n 2, 1) := by decide +kernel
theorem dH_mix_13 : decode prog_1_method_50_code 13 = .ok (.iload_n 2, 1) := by decide +kernel
theorem dH_mix_14 : decode prog_1_method_50_code 14 = .ok (.iload_n 2, 1) := by decide +kernel
theorem dH_mix_15 : decode prog_1_method_50_code 15 = .ok (.bipush 13, 2) := by decide +kernel
theorem dH_mix_17 : decode prog_1_method_50_code 17 = .ok (.iushr, 1) := by decide +kernel
theorem dH_mix_18 : decode prog_1_method_50_code 18 = .ok (.ixor, 1) := by decide +kernel
theorem dH_mix_19 : decode prog_1_method_50_code 19 = .ok (.ireturn, 1) := by decide +kernel
end
section
-- what the bytes say (written by wip/whole/mknames.py)
theorem dJA_fill_0 : decode prog_11_method_103_code 0 = .ok (.iconst 0, 1) := by decide +kernel
theorem dJA_fill_1 : decode prog_11_method_103_code 1 = .ok (.istore_n 2, 1) := by decide +kernel
theorem dJA_fill_2 : decode prog_11_method_103_code 2 = .ok (.aload_n 0, 1) := by decide +kernel
theorem dJA_fill_3 : decode prog_11_method_103_code 3 = .ok (.arraylength, 1) := by decide +kernel
theorem dJA_fill_4 : decode prog_11_method_103_code 4 = .ok (.istore_n 3, 1) := by decide +kernel
theorem dJA_fill_5 : decode prog_11_method_103_code 5 = .ok (.iload_n 2, 1) := by decide +kernel
theorem dJA_fill_6 : decode prog_11_method_103_code 6 = .ok (.iload_n 3, 1) := by decide +kernel
theorem dJA_fill_7 : decode prog_11_method_103_code 7 = .ok (.if_icmp .ge 13, 3) := by decide +kernel
theorem dJA_fill_10 : decode prog_11_method_103_code 10 = .ok (.aload_n 0, 1) := by decide +kernel
theorem dJA_fill_11 : decode prog_11_method_103_code 11 = .ok (.iload_n 2, 1) := by decide +kernel
theorem dJA_fill_12 : decode prog_11_method_103_code 12 = .ok (.iload_n 1, 1) := by decide +kernel
theorem dJA_fill_13 : decode prog_11_method_103_code 13 = .ok (.iastore, 1) := by decide +kernel
theorem dJA_fill_14 : decode prog_11_method_103_code 14 = .ok (.iinc 2 1, 3) := by decide +kernel
theorem dJA_fill_17 : decode prog_11_method_103_code 17 = .ok (.goto (-12), 3) := by decide +kernel
theorem dJA_fill_20 : decode prog_11_method_103_code 20 = .ok (.return_, 1) := by decide +kernel
theorem dJM_max_0 : decode prog_10_method_65_code 0 = .ok (.iload_n 0, 1) := by decide +kernel
theorem dJM_max_1 : decode prog_10_method_65_code 1 = .ok (.iload_n 1, 1) := by decide +kernel
theorem dJM_max_2 : decode prog_10_method_65_code 2 = .ok (.if_icmp .lt 7, 3) := by decide +kernel
theorem dJM_max_5 : decode prog_10_method_65_code 5 = .ok (.iload_n 0, 1) := by decide +kernel
theorem dJM_max_6 : decode prog_10_method_65_code 6 = .ok (.goto 4, 3) := by decide +kernel
theorem dJM_max_9 : decode prog_10_method_65_code 9 = .ok (.iload_n 1, 1) := by decide +kernel
theorem dJM_max_10 : decode prog_10_method_65_code 10 = .ok (.ireturn, 1) := by decide +kernel
theorem dJI_bitCount_0 : decode prog_9_method_49_code 0 = .ok (.iload_n 0, 1) := by decide +kernel
theorem dJI_bitCount_1 : decode prog_9_method_49_code 1 = .ok (.iload_n 0, 1) := by decide +kernel
theorem dJI_bitCount_2 : decode prog_9_method_49_code 2 = .ok (.iconst 1, 1) := by decide +kernel
theorem dJI_bitCount_3 : decode prog_9_method_49_code 3 = .ok (.iushr, 1) := by decide +kernel
theorem dJI_bitCount_4 : decode prog_9_method_49_code 4 = .ok (.ldc_w 265, 3) := by decide +kernel
theorem dJI_bitCount_7 : decode prog_9_method_49_code 7 = .ok (.iand, 1) := by decide +kernel
theorem dJI_bitCount_8 : decode prog_9_method_49_code 8 = .ok (.isub, 1) := by decide +kernel
theorem dJI_bitCount_9 : decode prog_9_method_49_code 9 = .ok (.istore_n 0, 1) := by decide +kernel
theorem dJI_bitCount_10 : decode prog_9_method_49_code 10 = .ok (.iload_n 0, 1) := by decide +kernel
theorem dJI_bitCount_11 : decode prog_9_method_49_code 11 = .ok (.ldc_w 266, 3) := by decide +kernel
theorem dJI_bitCount_14 : decode prog_9_method_49_code 14 = .ok (.iand, 1) := by decide +kernel
theorem dJI_bitCount_15 : decode prog_9_method_49_code 15 = .ok (.iload_n 0, 1) := by decide +kernel
theorem dJI_bitCount_16 : decode prog_9_method_49_code 16 = .ok (.iconst 2, 1) := by decide +kernel
theorem dJI_bitCount_17 : decode prog_9_method_49_code 17 = .ok (.iushr, 1) := by decide +kernel
theorem dJI_bitCount_18 : decode prog_9_method_49_code 18 = .ok (.ldc_w 266, 3) := by decide +kernel
theorem dJI_bitCount_21 : decode prog_9_method_49_code 21 = .ok (.iand, 1) := by decide +kernel
theorem dJI_bitCount_22 : decode prog_9_method_49_code 22 = .ok (.iadd, 1) := by decide +kernel
theorem dJI_bitCount_23 : decode prog_9_method_49_code 23 = .ok (.istore_n 0, 1) := by decide +kernel
theorem dJI_bitCount_24 : decode prog_9_method_49_code 24 = .ok (.iload_n 0, 1) := by decide +kernel
theorem dJI_bitCount_25 : decode prog_9_method_49_code 25 = .ok (.iload_n 0, 1) := by decide +kernel
theorem dJI_bitCount_26 : decode prog_9_method_49_code 26 = .ok (.iconst 4, 1) := by decide +kernel
theorem dJI_bitCount_27 : decode prog_9_method_49_code 27 = .ok (.iushr, 1) := by decide +kernel
theorem dJI_bitCount_28 : decode prog_9_method_49_code 28 = .ok (.iadd, 1) := by decide +kernel
theorem dJI_bitCount_29 : decode prog_9_method_49_code 29 = .ok (.ldc_w 267, 3) := by decide +kernel
theorem dJI_bitCount_32 : decode prog_9_method_49_code 32 = .ok (.iand, 1) := by decide +kernel
theorem dJI_bitCount_33 : decode prog_9_method_49_code 33 = .ok (.istore_n 0, 1) := by decide +kernel
theorem dJI_bitCount_34 : decode prog_9_method_49_code 34 = .ok (.iload_n 0, 1) := by decide +kernel
theorem dJI_bitCount_35 : decode prog_9_method_49_code 35 = .ok (.iload_n 0, 1) := by decide +kernel
theorem dJI_bitCount_36 : decode prog_9_method_49_code 36 = .ok (.bipush 8, 2) := by decide +kernel
theorem dJI_bitCount_38 : decode prog_9_method_49_code 38 = .ok (.iushr, 1) := by decide +kernel
theorem dJI_bitCount_39 : decode prog_9_method_49_code 39 = .ok (.iadd, 1) := by decide +kernel
theorem dJI_bitCount_40 : decode prog_9_method_49_code 40 = .ok (.istore_n 0, 1) := by decide +kernel
theorem dJI_bitCount_41 : decode prog_9_method_49_code 41 = .ok (.iload_n 0, 1) := by decide +kernel
theorem dJI_bitCount_42 : decode prog_9_method_49_code 42 = .ok (.iload_n 0, 1) := by decide +kernel
theorem dJI_bitCount_43 : decode prog_9_method_49_code 43 = .ok (.bipush 16, 2) := by decide +kernel
theorem dJI_bitCount_45 : decode prog_9_method_49_code 45 = .ok (.iushr, 1) := by decide +kernel
theorem dJI_bitCount_46 : decode prog_9_method_49_code 46 = .ok (.iadd, 1) := by decide +kernel
theorem dJI_bitCount_47 : decode prog_9_method_49_code 47 = .ok (.istore_n 0, 1) := by decide +kernel
theorem dJI_bitCount_48 : decode prog_9_method_49_code 48 = .ok (.iload_n 0, 1) := by decide +kernel
theorem dJI_bitCount_49 : decode prog_9_method_49_code 49 = .ok (.bipush 63, 2) := by decide +kernel
theorem dJI_bitCount_51 : decode prog_9_method_49_code 51 = .ok (.iand, 1) := by decide +kernel
theorem dJI_bitCount_52 : decode prog_9_method_49_code 52 = .ok (.ireturn, 1) := by decide +kernel
theorem dR_init_0 : decode prog_8_method_1_code 0 = .ok (.aload_n 0, 1) := by decide +kernel
theorem dR_init_1 : decode prog_8_method_1_code 1 = .ok (.invokespecial 1, 3) := by decide +kernel
theorem dR_init_4 : decode prog_8_method_1_code 4 = .ok (.aload_n 0, 1) := by decide +kernel
theorem dR_init_5 : decode prog_8_method_1_code 5 = .ok (.bipush 20, 2) := by decide +kernel
theorem dR_init_7 : decode prog_8_method_1_code 7 = .ok (.newarray .int, 2) := by decide +kernel
theorem dR_init_9 : decode prog_8_method_1_code 9 = .ok (.putfield 7, 3) := by decide +kernel
theorem dR_init_12 : decode prog_8_method_1_code 12 = .ok (.aload_n 0, 1) := by decide +kernel
theorem dR_init_13 : decode prog_8_method_1_code 13 = .ok (.bipush 20, 2) := by decide +kernel
theorem dR_init_15 : decode prog_8_method_1_code 15 = .ok (.newarray .int, 2) := by decide +kernel
theorem dR_init_17 : decode prog_8_method_1_code 17 = .ok (.putfield 13, 3) := by decide +kernel
theorem dR_init_20 : decode prog_8_method_1_code 20 = .ok (.aload_n 0, 1) := by decide +kernel
theorem dR_init_21 : decode prog_8_method_1_code 21 = .ok (.bipush 20, 2) := by decide +kernel
theorem dR_init_23 : decode prog_8_method_1_code 23 = .ok (.newarray .int, 2) := by decide +kernel
theorem dR_init_25 : decode prog_8_method_1_code 25 = .ok (.putfield 16, 3) := by decide +kernel
theorem dR_init_28 : decode prog_8_method_1_code 28 = .ok (.aload_n 0, 1) := by decide +kernel
theorem dR_init_29 : decode prog_8_method_1_code 29 = .ok (.bipush 20, 2) := by decide +kernel
theorem dR_init_31 : decode prog_8_method_1_code 31 = .ok (.newarray .int, 2) := by decide +kernel
theorem dR_init_33 : decode prog_8_method_1_code 33 = .ok (.putfield 19, 3) := by decide +kernel
theorem dR_init_36 : decode prog_8_method_1_code 36 = .ok (.aload_n 0, 1) := by decide +kernel
theorem dR_init_37 : decode prog_8_method_1_code 37 = .ok (.bipush 20, 2) := by decide +kernel
theorem dR_init_39 : decode prog_8_method_1_code 39 = .ok (.newarray .int, 2) := by decide +kernel
theorem dR_init_41 : decode prog_8_method_1_code 41 = .ok (.putfield 22, 3) := by decide +kernel
theorem dR_init_44 : decode prog_8_method_1_code 44 = .ok (.aload_n 0, 1) := by decide +kernel
theorem dR_init_45 : decode prog_8_method_1_code 45 = .ok (.bipush 20, 2) := by decide +kernel
theorem dR_init_47 : decode prog_8_method_1_code 47 = .ok (.newarray .boolean, 2) := by decide +kernel
theorem dR_init_49 : decode prog_8_method_1_code 49 = .ok (.putfield 25, 3) := by decide +kernel
theorem dR_init_52 : decode prog_8_method_1_code 52 = .ok (.aload_n 0, 1) := by decide +kernel
theorem dR_init_53 : decode prog_8_method_1_code 53 = .ok (.bipush 20, 2) := by decide +kernel
theorem dR_init_55 : decode prog_8_method_1_code 55 = .ok (.newarray .int, 2) := by decide +kernel
theorem dR_init_57 : decode prog_8_method_1_code 57 = .ok (.putfield 29, 3) := by decide +kernel
theorem dR_init_60 : decode prog_8_method_1_code 60 = .ok (.aload_n 0, 1) := by decide +kernel
theorem dR_init_61 : decode prog_8_method_1_code 61 = .ok (.bipush 20, 2) := by decide +kernel
theorem dR_init_63 : decode prog_8_method_1_code 63 = .ok (.newarray .int, 2) := by decide +kernel
theorem dR_init_65 : decode prog_8_method_1_code 65 = .ok (.putfield 32, 3) := by decide +kernel
theorem dR_init_68 : decode prog_8_method_1_code 68 = .ok (.aload_n 0, 1) := by decide +kernel
theorem dR_init_69 : decode prog_8_method_1_code 69 = .ok (.bipush 20, 2) := by decide +kernel
theorem dR_init_71 : decode prog_8_method_1_code 71 = .ok (.newarray .int, 2) := by decide +kernel
theorem dR_init_73 : decode prog_8_method_1_code 73 = .ok (.putfield 35, 3) := by decide +kernel
theorem dR_init_76 : decode prog_8_method_1_code 76 = .ok (.aload_n 0, 1) := by decide +kernel
theorem dR_init_77 : decode prog_8_method_1_code 77 = .ok (.bipush 20, 2) := by decide +kernel
theorem dR_init_79 : decode prog_8_method_1_code 79 = .ok (.newarray .int, 2) := by decide +kernel
theorem dR_init_81 : decode prog_8_method_1_code 81 = .ok (.putfield 38, 3) := by decide +kernel
theorem dR_init_84 : decode prog_8_method_1_code 84 = .ok (.aload_n 0, 1) := by decide +kernel
theorem dR_init_85 : decode prog_8_method_1_code 85 = .ok (.bipush 80, 2) := by decide +kernel
theorem dR_init_87 : decode prog_8_method_1_code 87 = .ok (.newarray .int, 2) := by decide +kernel
theorem dR_init_89 : decode prog_8_method_1_code 89 = .ok (.putfield 41, 3) := by decide +kernel
theorem dR_init_92 : decode prog_8_method_1_code 92 = .ok (.aload_n 0, 1) := by decide +kernel
theorem dR_init_93 : decode prog_8_method_1_code 93 = .ok (.bipush 80, 2) := by decide +kernel
theorem dR_init_95 : decode prog_8_method_1_code 95 = .ok (.newarray .int, 2) := by decide +kernel
theorem dR_init_97 : decode prog_8_method_1_code 97 = .ok (.putfield 44, 3) := by decide +kernel
theorem dR_init_100 : decode prog_8_method_1_code 100 = .ok (.aload_n 0, 1) := by decide +kernel
theorem dR_init_101 : decode prog_8_method_1_code 101 = .ok (.bipush 80, 2) := by decide +kernel
theorem dR_init_103 : decode prog_8_method_1_code 103 = .ok (.newarray .int, 2) := by decide +kernel
theorem dR_init_105 : decode prog_8_method_1_code 105 = .ok (.putfield 47, 3) := by decide +kernel
theorem dR_init_108 : decode prog_8_method_1_code 108 = .ok (.aload_n 0, 1) := by decide +kernel
theorem dR_init_109 : decode prog_8_method_1_code 109 = .ok (.bipush 80, 2) := by decide +kernel
theorem dR_init_111 : decode prog_8_method_1_code 111 = .ok (.newarray .int, 2) := by decide +kernel
theorem dR_init_113 : decode prog_8_method_1_code 113 = .ok (.putfield 50, 3) := by decide +kernel
theorem dR_init_116 : decode prog_8_method_1_code 116 = .ok (.aload_n 0, 1) := by decide +kernel
theorem dR_init_117 : decode prog_8_method_1_code 117 = .ok (.bipush 80, 2) := by decide +kernel
theorem dR_init_119 : decode prog_8_method_1_code 119 = .ok (.newarray .int, 2) := by decide +kernel
theorem dR_init_121 : decode prog_8_method_1_code 121 = .ok (.putfield 53, 3) := by decide +kernel
theorem dR_init_124 : decode prog_8_method_1_code 124 = .ok (.aload_n 0, 1) := by decide +kernel
theorem dR_init_125 : decode prog_8_method_1_code 125 = .ok (.bipush 80, 2) := by decide +kernel
theorem dR_init_127 : decode prog_8_method_1_code 127 = .ok (.newarray .int, 2) := by decide +kernel
theorem dR_init_129 : decode prog_8_method_1_code 129 = .ok (.putfield 56, 3) := by decide +kernel
theorem dR_init_132 : decode prog_8_method_1_code 132 = .ok (.aload_n 0, 1) := by decide +kernel
theorem dR_init_133 : decode prog_8_method_1_code 133 = .ok (.bipush 80, 2) := by decide +kernel
theorem dR_init_135 : decode prog_8_method_1_code 135 = .ok (.newarray .int, 2) := by decide +kernel
theorem dR_init_137 : decode prog_8_method_1_code 137 = .ok (.putfield 59, 3) := by decide +kernel
theorem dR_init_140 : decode prog_8_method_1_code 140 = .ok (.aload_n 0, 1) := by decide +kernel
theorem dR_init_141 : decode prog_8_method_1_code 141 = .ok (.bipush 80, 2) := by decide +kernel
theorem dR_init_143 : decode prog_8_method_1_code 143 = .ok (.newarray .int, 2) := by decide +kernel
theorem dR_init_145 : decode prog_8_method_1_code 145 = .ok (.putfield 62, 3) := by decide +kernel
theorem dR_init_148 : decode prog_8_method_1_code 148 = .ok (.aload_n 0, 1) := by decide +kernel
theorem dR_init_149 : decode prog_8_method_1_code 149 = .ok (.bipush 80, 2) := by decide +kernel
theorem dR_init_151 : decode prog_8_method_1_code 151 = .ok (.newarray .int, 2) := by decide +kernel
theorem dR_init_153 : decode prog_8_method_1_code 153 = .ok (.putfield 65, 3) := by decide +kernel
theorem dR_init_156 : decode prog_8_method_1_code 156 = .ok (.aload_n 0, 1) := by decide +kernel
theorem dR_init_157 : decode prog_8_method_1_code 157 = .ok (.iconst 4, 1) := by decide +kernel
theorem dR_init_158 : decode prog_8_method_1_code 158 = .ok (.newarray .int, 2) := by decide +kernel
theorem dR_init_160 : decode prog_8_method_1_code 160 = .ok (.putfield 68, 3) := by decide +kernel
theorem dR_init_163 : decode prog_8_method_1_code 163 = .ok (.aload_n 0, 1) := by decide +kernel
theorem dR_init_164 : decode prog_8_method_1_code 164 = .ok (.bipush 16, 2) := by decide +kernel
theorem dR_init_166 : decode prog_8_method_1_code 166 = .ok (.newarray .boolean, 2) := by decide +kernel
theorem dR_init_168 : decode prog_8_method_1_code 168 = .ok (.putfield 71, 3) := by decide +kernel
theorem dR_init_171 : decode prog_8_method_1_code 171 = .ok (.aload_n 0, 1) := by decide +kernel
theorem dR_init_172 : decode prog_8_method_1_code 172 = .ok (.sipush 220, 3) := by decide +kernel
theorem dR_init_175 : decode prog_8_method_1_code 175 = .ok (.newarray .int, 2) := by decide +kernel
theorem dR_init_177 : decode prog_8_method_1_code 177 = .ok (.putfield 74, 3) := by decide +kernel
theorem dR_init_180 : decode prog_8_method_1_code 180 = .ok (.aload_n 0, 1) := by decide +kernel
theorem dR_init_181 : decode prog_8_method_1_code 181 = .ok (.bipush 20, 2) := by decide +kernel
theorem dR_init_183 : decode prog_8_method_1_code 183 = .ok (.newarray .boolean, 2) := by decide +kernel
theorem dR_init_185 : decode prog_8_method_1_code 185 = .ok (.putfield 77, 3) := by decide +kernel
theorem dR_init_188 : decode prog_8_method_1_code 188 = .ok (.aload_n 0, 1) := by decide +kernel
theorem dR_init_189 : decode prog_8_method_1_code 189 = .ok (.bipush 16, 2) := by decide +kernel
theorem dR_init_191 : decode prog_8_method_1_code 191 = .ok (.newarray .int, 2) := by decide +kernel
theorem dR_init_193 : decode prog_8_method_1_code 193 = .ok (.putfield 80, 3) := by decide +kernel
theorem dR_init_196 : decode prog_8_method_1_code 196 = .ok (.return_, 1) := by decide +kernel
theorem dR_begin_0 : decode prog_8_method_5_code 0 = .ok (.aload_n 0, 1) := by decide +kernel
theorem dR_begin_1 : decode prog_8_method_5_code 1 = .ok (.iload_n 1, 1) := by decide +kernel
theorem dR_begin_2 : decode prog_8_method_5_code 2 = .ok (.invokevirtual 91, 3) := by decide +kernel
theorem dR_begin_5 : decode prog_8_method_5_code 5 = .ok (.ifCond .eq 30, 3) := by decide +kernel
theorem dR_begin_8 : decode prog_8_method_5_code 8 = .ok (.iload_n 2, 1) := by decide +kernel
theorem dR_begin_9 : decode prog_8_method_5_code 9 = .ok (.iconst 4, 1) := by decide +kernel
theorem dR_begin_10 : decode prog_8_method_5_code 10 = .ok (.if_icmp .eq 8, 3) := by decide +kernel
theorem dR_begin_13 : decode prog_8_method_5_code 13 = .ok (.iload_n 2, 1) := by decide +kernel
theorem dR_begin_14 : decode prog_8_method_5_code 14 = .ok (.iconst 5, 1) := by decide +kernel
theorem dR_begin_15 : decode prog_8_method_5_code 15 = .ok (.if_icmp .ne 20, 3) := by decide +kernel
theorem dR_begin_18 : decode prog_8_method_5_code 18 = .ok (.iload_n 3, 1) := by decide +kernel
theorem dR_begin_19 : decode prog_8_method_5_code 19 = .ok (.ifCond .lt 16, 3) := by decide +kernel
theorem dR_begin_22 : decode prog_8_method_5_code 22 = .ok (.iload 4, 2) := by decide +kernel
theorem dR_begin_24 : decode prog_8_method_5_code 24 = .ok (.iload_n 3, 1) := by decide +kernel
theorem dR_begin_25 : decode prog_8_method_5_code 25 = .ok (.if_icmp .le 10, 3) := by decide +kernel
theorem dR_begin_28 : decode prog_8_method_5_code 28 = .ok (.iload 4, 2) := by decide +kernel
theorem dR_begin_30 : decode prog_8_method_5_code 30 = .ok (.ldc 94, 2) := by decide +kernel
theorem dR_begin_32 : decode prog_8_method_5_code 32 = .ok (.if_icmp .le 5, 3) := by decide +kernel
theorem dR_begin_35 : decode prog_8_method_5_code 35 = .ok (.iconst (-1), 1) := by decide +kernel
theorem dR_begin_36 : decode prog_8_method_5_code 36 = .ok (.ireturn, 1) := by decide +kernel
theorem dR_begin_37 : decode prog_8_method_5_code 37 = .ok (.aload_n 0, 1) := by decide +kernel
theorem dR_begin_38 : decode prog_8_method_5_code 38 = .ok (.getfield 83, 3) := by decide +kernel
theorem dR_begin_41 : decode prog_8_method_5_code 41 = .ok (.bipush 20, 2) := by decide +kernel
theorem dR_begin_43 : decode prog_8_method_5_code 43 = .ok (.if_icmp .ne 6, 3) := by decide +kernel
theorem dR_begin_46 : decode prog_8_method_5_code 46 = .ok (.bipush (-6), 2) := by decide +kernel
theorem dR_begin_48 : decode prog_8_method_5_code 48 = .ok (.ireturn, 1) := by decide +kernel
theorem dR_begin_49 : decode prog_8_method_5_code 49 = .ok (.aload_n 0, 1) := by decide +kernel
theorem dR_begin_50 : decode prog_8_method_5_code 50 = .ok (.getfield 7, 3) := by decide +kernel
theorem dR_begin_53 : decode prog_8_method_5_code 53 = .ok (.aload_n 0, 1) := by decide +kernel
theorem dR_begin_54 : decode prog_8_method_5_code 54 = .ok (.getfield 83, 3) := by decide +kernel
theorem dR_begin_57 : decode prog_8_method_5_code 57 = .ok (.iload_n 1, 1) := by decide +kernel
theorem dR_begin_58 : decode prog_8_method_5_code 58 = .ok (.iastore, 1) := by decide +kernel
theorem dR_begin_59 : decode prog_8_method_5_code 59 = .ok (.aload_n 0, 1) := by decide +kernel
theorem dR_begin_60 : decode prog_8_method_5_code 60 = .ok (.getfield 13, 3) := by decide +kernel
theorem dR_begin_63 : decode prog_8_method_5_code 63 = .ok (.aload_n 0, 1) := by decide +kernel
theorem dR_begin_64 : decode prog_8_method_5_code 64 = .ok (.getfield 83, 3) := by decide +kernel
theorem dR_begin_67 : decode prog_8_method_5_code 67 = .ok (.iload_n 2, 1) := by decide +kernel
theorem dR_begin_68 : decode prog_8_method_5_code 68 = .ok (.iastore, 1) := by decide +kernel
theorem dR_begin_69 : decode prog_8_method_5_code 69 = .ok (.aload_n 0, 1) := by decide +kernel
theorem dR_begin_70 : decode prog_8_method_5_code 70 = .ok (.getfield 16, 3) := by decide +kernel
theorem dR_begin_73 : decode prog_8_method_5_code 73 = .ok (.aload_n 0, 1) := by decide +kernel
theorem dR_begin_74 : decode prog_8_method_5_code 74 = .ok (.getfield 83, 3) := by decide +kernel
theorem dR_begin_77 : decode prog_8_method_5_code 77 = .ok (.iload_n 3, 1) := by decide +kernel
theorem dR_begin_78 : decode prog_8_method_5_code 78 = .ok (.iastore, 1) := by decide +kernel
theorem dR_begin_79 : decode prog_8_method_5_code 79 = .ok (.aload_n 0, 1) := by decide +kernel
theorem dR_begin_80 : decode prog_8_method_5_code 80 = .ok (.getfield 19, 3) := by decide +kernel
theorem dR_begin_83 : decode prog_8_method_5_code 83 = .ok (.aload_n 0, 1) := by decide +kernel
theorem dR_begin_84 : decode prog_8_method_5_code 84 = .ok (.getfield 83, 3) := by decide +kernel
theorem dR_begin_87 : decode prog_8_method_5_code 87 = .ok (.iload 4, 2) := by decide +kernel
theorem dR_begin_89 : decode prog_8_method_5_code 89 = .ok (.iastore, 1) := by decide +kernel
theorem dR_begin_90 : decode prog_8_method_5_code 90 = .ok (.aload_n 0, 1) := by decide +kernel
theorem dR_begin_91 : decode prog_8_method_5_code 91 = .ok (.dup, 1) := by decide +kernel
theorem dR_begin_92 : decode prog_8_method_5_code 92 = .ok (.getfield 83, 3) := by decide +kernel
theorem dR_begin_95 : decode prog_8_method_5_code 95 = .ok (.iconst 1, 1) := by decide +kernel
theorem dR_begin_96 : decode prog_8_method_5_code 96 = .ok (.iadd, 1) := by decide +kernel
theorem dR_begin_97 : decode prog_8_method_5_code 97 = .ok (.putfield 83, 3) := by decide +kernel
theorem dR_begin_100 : decode prog_8_method_5_code 100 = .ok (.aload_n 0, 1) := by decide +kernel
theorem dR_begin_101 : decode prog_8_method_5_code 101 = .ok (.getfield 83, 3) := by decide +kernel
theorem dR_begin_104 : decode prog_8_method_5_code 104 = .ok (.iconst 1, 1) := by decide +kernel
theorem dR_begin_105 : decode prog_8_method_5_code 105 = .ok (.isub, 1) := by decide +kernel
theorem dR_begin_106 : decode prog_8_method_5_code 106 = .ok (.ireturn, 1) := by decide +kernel
theorem dR_isNode_0 : decode prog_8_method_3_code 0 = .ok (.iload_n 1, 1) := by decide +kernel
theorem dR_isNode_1 : decode prog_8_method_3_code 1 = .ok (.ifCond .lt 12, 3) := by decide +kernel
theorem dR_isNode_4 : decode prog_8_method_3_code 4 = .ok (.iload_n 1, 1) := by decide +kernel
theorem dR_isNode_5 : decode prog_8_method_3_code 5 = .ok (.iconst 3, 1) := by decide +kernel
theorem dR_isNode_6 : decode prog_8_method_3_code 6 = .ok (.if_icmp .gt 7, 3) := by decide +kernel
theorem dR_isNode_9 : decode prog_8_method_3_code 9 = .ok (.iconst 1, 1) := by decide +kernel
theorem dR_isNode_10 : decode prog_8_method_3_code 10 = .ok (.goto 4, 3) := by decide +kernel
theorem dR_isNode_13 : decode prog_8_method_3_code 13 = .ok (.iconst 0, 1) := by decide +kernel
theorem dR_isNode_14 : decode prog_8_method_3_code 14 = .ok (.ireturn, 1) := by decide +kernel
theorem dR_consume_0 : decode prog_8_method_9_code 0 = .ok (.aload_n 0, 1) := by decide +kernel
theorem dR_consume_1 : decode prog_8_method_9_code 1 = .ok (.iload_n 1, 1) := by decide +kernel
theorem dR_consume_2 : decode prog_8_method_9_code 2 = .ok (.invokevirtual 87, 3) := by decide +kernel
theorem dR_consume_5 : decode prog_8_method_9_code 5 = .ok (.ifCond .eq 12, 3) := by decide +kernel
theorem dR_consume_8 : decode prog_8_method_9_code 8 = .ok (.aload_n 0, 1) := by decide +kernel
theorem dR_consume_9 : decode prog_8_method_9_code 9 = .ok (.iload_n 2, 1) := by decide +kernel
theorem dR_consume_10 : decode prog_8_method_9_code 10 = .ok (.iload_n 3, 1) := by decide +kernel
theorem dR_consume_11 : decode prog_8_method_9_code 11 = .ok (.invokevirtual 95, 3) := by decide +kernel
theorem dR_consume_14 : decode prog_8_method_9_code 14 = .ok (.ifCond .ne 5, 3) := by decide +kernel
theorem dR_consume_17 : decode prog_8_method_9_code 17 = .ok (.iconst (-1), 1) := by decide +kernel
theorem dR_consume_18 : decode prog_8_method_9_code 18 = .ok (.ireturn, 1) := by decide +kernel
theorem dR_consume_19 : decode prog_8_method_9_code 19 = .ok (.aload_n 0, 1) := by decide +kernel
theorem dR_consume_20 : decode prog_8_method_9_code 20 = .ok (.getfield 22, 3) := by decide +kernel
theorem dR_consume_23 : decode prog_8_method_9_code 23 = .ok (.iload_n 1, 1) := by decide +kernel
theorem dR_consume_24 : decode prog_8_method_9_code 24 = .ok (.iaload, 1) := by decide +kernel
theorem dR_consume_25 : decode prog_8_method_9_code 25 = .ok (.ifCond .eq 6, 3) := by decide +kernel
theorem dR_consume_28 : decode prog_8_method_9_code 28 = .ok (.bipush (-2), 2) := by decide +kernel
theorem dR_consume_30 : decode prog_8_method_9_code 30 = .ok (.ireturn, 1) := by decide +kernel
theorem dR_consume_31 : decode prog_8_method_9_code 31 = .ok (.aload_n 0, 1) := by decide +kernel
theorem dR_consume_32 : decode prog_8_method_9_code 32 = .ok (.getfield 62, 3) := by decide +kernel
theorem dR_consume_35 : decode prog_8_method_9_code 35 = .ok (.bipush 20, 2) := by decide +kernel
theorem dR_consume_37 : decode prog_8_method_9_code 37 = .ok (.aload_n 0, 1) := by decide +kernel
theorem dR_consume_38 : decode prog_8_method_9_code 38 = .ok (.getfield 7, 3) := by decide +kernel
theorem dR_consume_41 : decode prog_8_method_9_code 41 = .ok (.iload_n 1, 1) := by decide +kernel
theorem dR_consume_42 : decode prog_8_method_9_code 42 = .ok (.iaload, 1) := by decide +kernel
theorem dR_consume_43 : decode prog_8_method_9_code 43 = .ok (.imul, 1) := by decide +kernel
theorem dR_consume_44 : decode prog_8_method_9_code 44 = .ok (.iload_n 2, 1) := by decide +kernel
theorem dR_consume_45 : decode prog_8_method_9_code 45 = .ok (.iadd, 1) := by decide +kernel
theorem dR_consume_46 : decode prog_8_method_9_code 46 = .ok (.iaload, 1) := by decide +kernel
theorem dR_consume_47 : decode prog_8_method_9_code 47 = .ok (.ifCond .ne 6, 3) := by decide +kernel
theorem dR_consume_50 : decode prog_8_method_9_code 50 = .ok (.bipush (-3), 2) := by decide +kernel
theorem dR_consume_52 : decode prog_8_method_9_code 52 = .ok (.ireturn, 1) := by decide +kernel
theorem dR_consume_53 : decode prog_8_method_9_code 53 = .ok (.aload_n 0, 1) := by decide +kernel
theorem dR_consume_54 : decode prog_8_method_9_code 54 = .ok (.getfield 13, 3) := by decide +kernel
theorem dR_consume_57 : decode prog_8_method_9_code 57 = .ok (.iload_n 2, 1) := by decide +kernel
theorem dR_consume_58 : decode prog_8_method_9_code 58 = .ok (.iaload, 1) := by decide +kernel
theorem dR_consume_59 : decode prog_8_method_9_code 59 = .ok (.aload_n 0, 1) := by decide +kernel
theorem dR_consume_60 : decode prog_8_method_9_code 60 = .ok (.getfield 13, 3) := by decide +kernel
theorem dR_consume_63 : decode prog_8_method_9_code 63 = .ok (.iload_n 1, 1) := by decide +kernel
theorem dR_consume_64 : decode prog_8_method_9_code 64 = .ok (.iaload, 1) := by decide +kernel
theorem dR_consume_65 : decode prog_8_method_9_code 65 = .ok (.if_icmp .eq 6, 3) := by decide +kernel
theorem dR_consume_68 : decode prog_8_method_9_code 68 = .ok (.bipush (-4), 2) := by decide +kernel
theorem dR_consume_70 : decode prog_8_method_9_code 70 = .ok (.ireturn, 1) := by decide +kernel
theorem dR_consume_71 : decode prog_8_method_9_code 71 = .ok (.aload_n 0, 1) := by decide +kernel
theorem dR_consume_72 : decode prog_8_method_9_code 72 = .ok (.iload_n 1, 1) := by decide +kernel
theorem dR_consume_73 : decode prog_8_method_9_code 73 = .ok (.iconst 4, 1) := by decide +kernel
theorem dR_consume_74 : decode prog_8_method_9_code 74 = .ok (.iload_n 2, 1) := by decide +kernel
theorem dR_consume_75 : decode prog_8_method_9_code 75 = .ok (.imul, 1) := by decide +kernel
theorem dR_consume_76 : decode prog_8_method_9_code 76 = .ok (.iload_n 3, 1) := by decide +kernel
theorem dR_consume_77 : decode prog_8_method_9_code 77 = .ok (.iadd, 1) := by decide +kernel
theorem dR_consume_78 : decode prog_8_method_9_code 78 = .ok (.invokevirtual 99, 3) := by decide +kernel
theorem dR_consume_81 : decode prog_8_method_9_code 81 = .ok (.ifCond .eq 6, 3) := by decide +kernel
theorem dR_consume_84 : decode prog_8_method_9_code 84 = .ok (.bipush (-5), 2) := by decide +kernel
theorem dR_consume_86 : decode prog_8_method_9_code 86 = .ok (.ireturn, 1) := by decide +kernel
theorem dR_consume_87 : decode prog_8_method_9_code 87 = .ok (.aload_n 0, 1) := by decide +kernel
theorem dR_consume_88 : decode prog_8_method_9_code 88 = .ok (.getfield 35, 3) := by decide +kernel
theorem dR_consume_91 : decode prog_8_method_9_code 91 = .ok (.iload_n 1, 1) := by decide +kernel
theorem dR_consume_92 : decode prog_8_method_9_code 92 = .ok (.iaload, 1) := by decide +kernel
theorem dR_consume_93 : decode prog_8_method_9_code 93 = .ok (.iconst 4, 1) := by decide +kernel
theorem dR_consume_94 : decode prog_8_method_9_code 94 = .ok (.if_icmp .ne 6, 3) := by decide +kernel
theorem dR_consume_97 : decode prog_8_method_9_code 97 = .ok (.bipush (-6), 2) := by decide +kernel
theorem dR_consume_99 : decode prog_8_method_9_code 99 = .ok (.ireturn, 1) := by decide +kernel
theorem dR_consume_100 : decode prog_8_method_9_code 100 = .ok (.aload_n 0, 1) := by decide +kernel
theorem dR_consume_101 : decode prog_8_method_9_code 101 = .ok (.iload_n 1, 1) := by decide +kernel
theorem dR_consume_102 : decode prog_8_method_9_code 102 = .ok (.iconst 4, 1) := by decide +kernel
theorem dR_consume_103 : decode prog_8_method_9_code 103 = .ok (.iload_n 2, 1) := by decide +kernel
theorem dR_consume_104 : decode prog_8_method_9_code 104 = .ok (.imul, 1) := by decide +kernel
theorem dR_consume_105 : decode prog_8_method_9_code 105 = .ok (.iload_n 3, 1) := by decide +kernel
theorem dR_consume_106 : decode prog_8_method_9_code 106 = .ok (.iadd, 1) := by decide +kernel
theorem dR_consume_107 : decode prog_8_method_9_code 107 = .ok (.invokevirtual 102, 3) := by decide +kernel
theorem dR_consume_110 : decode prog_8_method_9_code 110 = .ok (.aload_n 0, 1) := by decide +kernel
theorem dR_consume_111 : decode prog_8_method_9_code 111 = .ok (.getfield 35, 3) := by decide +kernel
theorem dR_consume_114 : decode prog_8_method_9_code 114 = .ok (.iload_n 1, 1) := by decide +kernel
theorem dR_consume_115 : decode prog_8_method_9_code 115 = .ok (.iaload, 1) := by decide +kernel
theorem dR_consume_116 : decode prog_8_method_9_code 116 = .ok (.iconst 1, 1) := by decide +kernel
theorem dR_consume_117 : decode prog_8_method_9_code 117 = .ok (.isub, 1) := by decide +kernel
theorem dR_consume_118 : decode prog_8_method_9_code 118 = .ok (.ireturn, 1) := by decide +kernel
theorem dR_isTx_0 : decode prog_8_method_2_code 0 = .ok (.iload_n 1, 1) := by decide +kernel
theorem dR_isTx_1 : decode prog_8_method_2_code 1 = .ok (.ifCond .lt 15, 3) := by decide +kernel
theorem dR_isTx_4 : decode prog_8_method_2_code 4 = .ok (.iload_n 1, 1) := by decide +kernel
theorem dR_isTx_5 : decode prog_8_method_2_code 5 = .ok (.aload_n 0, 1) := by decide +kernel
theorem dR_isTx_6 : decode prog_8_method_2_code 6 = .ok (.getfield 83, 3) := by decide +kernel
theorem dR_isTx_9 : decode prog_8_method_2_code 9 = .ok (.if_icmp .ge 7, 3) := by decide +kernel
theorem dR_isTx_12 : decode prog_8_method_2_code 12 = .ok (.iconst 1, 1) := by decide +kernel
theorem dR_isTx_13 : decode prog_8_method_2_code 13 = .ok (.goto 4, 3) := by decide +kernel
theorem dR_isTx_16 : decode prog_8_method_2_code 16 = .ok (.iconst 0, 1) := by decide +kernel
theorem dR_isTx_17 : decode prog_8_method_2_code 17 = .ok (.ireturn, 1) := by decide +kernel
theorem dR_isState_0 : decode prog_8_method_4_code 0 = .ok (.aload_n 0, 1) := by decide +kernel
theorem dR_isState_1 : decode prog_8_method_4_code 1 = .ok (.iload_n 1, 1) := by decide +kernel
theorem dR_isState_2 : decode prog_8_method_4_code 2 = .ok (.invokevirtual 87, 3) := by decide +kernel
theorem dR_isState_5 : decode prog_8_method_4_code 5 = .ok (.ifCond .eq 21, 3) := by decide +kernel
theorem dR_isState_8 : decode prog_8_method_4_code 8 = .ok (.iload_n 2, 1) := by decide +kernel
theorem dR_isState_9 : decode prog_8_method_4_code 9 = .ok (.ifCond .lt 17, 3) := by decide +kernel
theorem dR_isState_12 : decode prog_8_method_4_code 12 = .ok (.iload_n 2, 1) := by decide +kernel
theorem dR_isState_13 : decode prog_8_method_4_code 13 = .ok (.aload_n 0, 1) := by decide +kernel
theorem dR_isState_14 : decode prog_8_method_4_code 14 = .ok (.getfield 38, 3) := by decide +kernel
theorem dR_isState_17 : decode prog_8_method_4_code 17 = .ok (.iload_n 1, 1) := by decide +kernel
theorem dR_isState_18 : decode prog_8_method_4_code 18 = .ok (.iaload, 1) := by decide +kernel
theorem dR_isState_19 : decode prog_8_method_4_code 19 = .ok (.if_icmp .ge 7, 3) := by decide +kernel
theorem dR_isState_22 : decode prog_8_method_4_code 22 = .ok (.iconst 1, 1) := by decide +kernel
theorem dR_isState_23 : decode prog_8_method_4_code 23 = .ok (.goto 4, 3) := by decide +kernel
theorem dR_isState_26 : decode prog_8_method_4_code 26 = .ok (.iconst 0, 1) := by decide +kernel
theorem dR_isState_27 : decode prog_8_method_4_code 27 = .ok (.ireturn, 1) := by decide +kernel
theorem dR_isInput_0 : decode prog_8_method_6_code 0 = .ok (.iconst 0, 1) := by decide +kernel
theorem dR_isInput_1 : decode prog_8_method_6_code 1 = .ok (.istore_n 3, 1) := by decide +kernel
theorem dR_isInput_2 : decode prog_8_method_6_code 2 = .ok (.iload_n 3, 1) := by decide +kernel
theorem dR_isInput_3 : decode prog_8_method_6_code 3 = .ok (.aload_n 0, 1) := by decide +kernel
theorem dR_isInput_4 : decode prog_8_method_6_code 4 = .ok (.getfield 35, 3) := by decide +kernel
theorem dR_isInput_7 : decode prog_8_method_6_code 7 = .ok (.iload_n 1, 1) := by decide +kernel
theorem dR_isInput_8 : decode prog_8_method_6_code 8 = .ok (.iaload, 1) := by decide +kernel
theorem dR_isInput_9 : decode prog_8_method_6_code 9 = .ok (.if_icmp .ge 25, 3) := by decide +kernel
theorem dR_isInput_12 : decode prog_8_method_6_code 12 = .ok (.aload_n 0, 1) := by decide +kernel
theorem dR_isInput_13 : decode prog_8_method_6_code 13 = .ok (.getfield 41, 3) := by decide +kernel
theorem dR_isInput_16 : decode prog_8_method_6_code 16 = .ok (.iconst 4, 1) := by decide +kernel
theorem dR_isInput_17 : decode prog_8_method_6_code 17 = .ok (.iload_n 1, 1) := by decide +kernel
theorem dR_isInput_18 : decode prog_8_method_6_code 18 = .ok (.imul, 1) := by decide +kernel
theorem dR_isInput_19 : decode prog_8_method_6_code 19 = .ok (.iload_n 3, 1) := by decide +kernel
theorem dR_isInput_20 : decode prog_8_method_6_code 20 = .ok (.iadd, 1) := by decide +kernel
theorem dR_isInput_21 : decode prog_8_method_6_code 21 = .ok (.iaload, 1) := by decide +kernel
theorem dR_isInput_22 : decode prog_8_method_6_code 22 = .ok (.iload_n 2, 1) := by decide +kernel
theorem dR_isInput_23 : decode prog_8_method_6_code 23 = .ok (.if_icmp .ne 5, 3) := by decide +kernel
theorem dR_isInput_26 : decode prog_8_method_6_code 26 = .ok (.iconst 1, 1) := by decide +kernel
theorem dR_isInput_27 : decode prog_8_method_6_code 27 = .ok (.ireturn, 1) := by decide +kernel
theorem dR_isInput_28 : decode prog_8_method_6_code 28 = .ok (.iinc 3 1, 3) := by decide +kernel
theorem dR_isInput_31 : decode prog_8_method_6_code 31 = .ok (.goto (-29), 3) := by decide +kernel
theorem dR_isInput_34 : decode prog_8_method_6_code 34 = .ok (.iconst 0, 1) := by decide +kernel
theorem dR_isInput_35 : decode prog_8_method_6_code 35 = .ok (.ireturn, 1) := by decide +kernel
theorem dR_addInput_0 : decode prog_8_method_7_code 0 = .ok (.aload_n 0, 1) := by decide +kernel
theorem dR_addInput_1 : decode prog_8_method_7_code 1 = .ok (.getfield 41, 3) := by decide +kernel
theorem dR_addInput_4 : decode prog_8_method_7_code 4 = .ok (.iconst 4, 1) := by decide +kernel
theorem dR_addInput_5 : decode prog_8_method_7_code 5 = .ok (.iload_n 1, 1) := by decide +kernel
theorem dR_addInput_6 : decode prog_8_method_7_code 6 = .ok (.imul, 1) := by decide +kernel
theorem dR_addInput_7 : decode prog_8_method_7_code 7 = .ok (.aload_n 0, 1) := by decide +kernel
theorem dR_addInput_8 : decode prog_8_method_7_code 8 = .ok (.getfield 35, 3) := by decide +kernel
theorem dR_addInput_11 : decode prog_8_method_7_code 11 = .ok (.iload_n 1, 1) := by decide +kernel
theorem dR_addInput_12 : decode prog_8_method_7_code 12 = .ok (.iaload, 1) := by decide +kernel
theorem dR_addInput_13 : decode prog_8_method_7_code 13 = .ok (.iadd, 1) := by decide +kernel
theorem dR_addInput_14 : decode prog_8_method_7_code 14 = .ok (.iload_n 2, 1) := by decide +kernel
theorem dR_addInput_15 : decode prog_8_method_7_code 15 = .ok (.iastore, 1) := by decide +kernel
theorem dR_addInput_16 : decode prog_8_method_7_code 16 = .ok (.aload_n 0, 1) := by decide +kernel
theorem dR_addInput_17 : decode prog_8_method_7_code 17 = .ok (.getfield 35, 3) := by decide +kernel
theorem dR_addInput_20 : decode prog_8_method_7_code 20 = .ok (.iload_n 1, 1) := by decide +kernel
theorem dR_addInput_21 : decode prog_8_method_7_code 21 = .ok (.dup2, 1) := by decide +kernel
theorem dR_addInput_22 : decode prog_8_method_7_code 22 = .ok (.iaload, 1) := by decide +kernel
theorem dR_addInput_23 : decode prog_8_method_7_code 23 = .ok (.iconst 1, 1) := by decide +kernel
theorem dR_addInput_24 : decode prog_8_method_7_code 24 = .ok (.iadd, 1) := by decide +kernel
theorem dR_addInput_25 : decode prog_8_method_7_code 25 = .ok (.iastore, 1) := by decide +kernel
theorem dR_addInput_26 : decode prog_8_method_7_code 26 = .ok (.return_, 1) := by decide +kernel
theorem dR_produce_0 : decode prog_8_method_10_code 0 = .ok (.aload_n 0, 1) := by decide +kernel
theorem dR_produce_1 : decode prog_8_method_10_code 1 = .ok (.iload_n 1, 1) := by decide +kernel
theorem dR_produce_2 : decode prog_8_method_10_code 2 = .ok (.invokevirtual 87, 3) := by decide +kernel
theorem dR_produce_5 : decode prog_8_method_10_code 5 = .ok (.ifCond .eq 43, 3) := by decide +kernel
theorem dR_produce_8 : decode prog_8_method_10_code 8 = .ok (.iload_n 2, 1) := by decide +kernel
theorem dR_produce_9 : decode prog_8_method_10_code 9 = .ok (.ifCond .lt 39, 3) := by decide +kernel
theorem dR_produce_12 : decode prog_8_method_10_code 12 = .ok (.iload_n 2, 1) := by decide +kernel
theorem dR_produce_13 : decode prog_8_method_10_code 13 = .ok (.iconst 2, 1) := by decide +kernel
theorem dR_produce_14 : decode prog_8_method_10_code 14 = .ok (.if_icmp .gt 34, 3) := by decide +kernel
theorem dR_produce_17 : decode prog_8_method_10_code 17 = .ok (.aload_n 0, 1) := by decide +kernel
theorem dR_produce_18 : decode prog_8_method_10_code 18 = .ok (.iload_n 3, 1) := by decide +kernel
theorem dR_produce_19 : decode prog_8_method_10_code 19 = .ok (.invokevirtual 91, 3) := by decide +kernel
theorem dR_produce_22 : decode prog_8_method_10_code 22 = .ok (.ifCond .eq 26, 3) := by decide +kernel
theorem dR_produce_25 : decode prog_8_method_10_code 25 = .ok (.aload_n 0, 1) := by decide +kernel
theorem dR_produce_26 : decode prog_8_method_10_code 26 = .ok (.iload 4, 2) := by decide +kernel
theorem dR_produce_28 : decode prog_8_method_10_code 28 = .ok (.invokevirtual 91, 3) := by decide +kernel
theorem dR_produce_31 : decode prog_8_method_10_code 31 = .ok (.ifCond .eq 17, 3) := by decide +kernel
theorem dR_produce_34 : decode prog_8_method_10_code 34 = .ok (.iload 5, 2) := by decide +kernel
theorem dR_produce_36 : decode prog_8_method_10_code 36 = .ok (.iconst 1, 1) := by decide +kernel
theorem dR_produce_37 : decode prog_8_method_10_code 37 = .ok (.if_icmp .lt 11, 3) := by decide +kernel
theorem dR_produce_40 : decode prog_8_method_10_code 40 = .ok (.iload 5, 2) := by decide +kernel
theorem dR_produce_42 : decode prog_8_method_10_code 42 = .ok (.sipush 1000, 3) := by decide +kernel
theorem dR_produce_45 : decode prog_8_method_10_code 45 = .ok (.if_icmp .le 5, 3) := by decide +kernel
theorem dR_produce_48 : decode prog_8_method_10_code 48 = .ok (.iconst (-1), 1) := by decide +kernel
theorem dR_produce_49 : decode prog_8_method_10_code 49 = .ok (.ireturn, 1) := by decide +kernel
theorem dR_produce_50 : decode prog_8_method_10_code 50 = .ok (.iload_n 2, 1) := by decide +kernel
theorem dR_produce_51 : decode prog_8_method_10_code 51 = .ok (.iconst 1, 1) := by decide +kernel
theorem dR_produce_52 : decode prog_8_method_10_code 52 = .ok (.if_icmp .ne 9, 3) := by decide +kernel
theorem dR_produce_55 : decode prog_8_method_10_code 55 = .ok (.iload_n 3, 1) := by decide +kernel
theorem dR_produce_56 : decode prog_8_method_10_code 56 = .ok (.iload 4, 2) := by decide +kernel
theorem dR_produce_58 : decode prog_8_method_10_code 58 = .ok (.if_icmp .eq 17, 3) := by decide +kernel
theorem dR_produce_61 : decode prog_8_method_10_code 61 = .ok (.iload_n 2, 1) := by decide +kernel
theorem dR_produce_62 : decode prog_8_method_10_code 62 = .ok (.iconst 2, 1) := by decide +kernel
theorem dR_produce_63 : decode prog_8_method_10_code 63 = .ok (.if_icmp .ne 14, 3) := by decide +kernel
theorem dR_produce_66 : decode prog_8_method_10_code 66 = .ok (.iload_n 3, 1) := by decide +kernel
theorem dR_produce_67 : decode prog_8_method_10_code 67 = .ok (.ifCond .ne 8, 3) := by decide +kernel
theorem dR_produce_70 : decode prog_8_method_10_code 70 = .ok (.iload 4, 2) := by decide +kernel
theorem dR_produce_72 : decode prog_8_method_10_code 72 = .ok (.ifCond .eq 5, 3) := by decide +kernel
theorem dR_produce_75 : decode prog_8_method_10_code 75 = .ok (.iconst (-1), 1) := by decide +kernel
theorem dR_produce_76 : decode prog_8_method_10_code 76 = .ok (.ireturn, 1) := by decide +kernel
theorem dR_produce_77 : decode prog_8_method_10_code 77 = .ok (.aload_n 0, 1) := by decide +kernel
theorem dR_produce_78 : decode prog_8_method_10_code 78 = .ok (.getfield 22, 3) := by decide +kernel
theorem dR_produce_81 : decode prog_8_method_10_code 81 = .ok (.iload_n 1, 1) := by decide +kernel
theorem dR_produce_82 : decode prog_8_method_10_code 82 = .ok (.iaload, 1) := by decide +kernel
theorem dR_produce_83 : decode prog_8_method_10_code 83 = .ok (.ifCond .eq 6, 3) := by decide +kernel
theorem dR_produce_86 : decode prog_8_method_10_code 86 = .ok (.bipush (-2), 2) := by decide +kernel
theorem dR_produce_88 : decode prog_8_method_10_code 88 = .ok (.ireturn, 1) := by decide +kernel
theorem dR_produce_89 : decode prog_8_method_10_code 89 = .ok (.aload_n 0, 1) := by decide +kernel
theorem dR_produce_90 : decode prog_8_method_10_code 90 = .ok (.getfield 38, 3) := by decide +kernel
theorem dR_produce_93 : decode prog_8_method_10_code 93 = .ok (.iload_n 1, 1) := by decide +kernel
theorem dR_produce_94 : decode prog_8_method_10_code 94 = .ok (.iaload, 1) := by decide +kernel
theorem dR_produce_95 : decode prog_8_method_10_code 95 = .ok (.iconst 4, 1) := by decide +kernel
theorem dR_produce_96 : decode prog_8_method_10_code 96 = .ok (.if_icmp .ne 6, 3) := by decide +kernel
theorem dR_produce_99 : decode prog_8_method_10_code 99 = .ok (.bipush (-6), 2) := by decide +kernel
theorem dR_produce_101 : decode prog_8_method_10_code 101 = .ok (.ireturn, 1) := by decide +kernel
theorem dR_produce_102 : decode prog_8_method_10_code 102 = .ok (.aload_n 0, 1) := by decide +kernel
theorem dR_produce_103 : decode prog_8_method_10_code 103 = .ok (.iload_n 1, 1) := by decide +kernel
theorem dR_produce_104 : decode prog_8_method_10_code 104 = .ok (.iload_n 2, 1) := by decide +kernel
theorem dR_produce_105 : decode prog_8_method_10_code 105 = .ok (.iload_n 3, 1) := by decide +kernel
theorem dR_produce_106 : decode prog_8_method_10_code 106 = .ok (.iload 4, 2) := by decide +kernel
theorem dR_produce_108 : decode prog_8_method_10_code 108 = .ok (.iload 5, 2) := by decide +kernel
theorem dR_produce_110 : decode prog_8_method_10_code 110 = .ok (.invokevirtual 106, 3) := by decide +kernel
theorem dR_produce_113 : decode prog_8_method_10_code 113 = .ok (.aload_n 0, 1) := by decide +kernel
theorem dR_produce_114 : decode prog_8_method_10_code 114 = .ok (.getfield 38, 3) := by decide +kernel
theorem dR_produce_117 : decode prog_8_method_10_code 117 = .ok (.iload_n 1, 1) := by decide +kernel
theorem dR_produce_118 : decode prog_8_method_10_code 118 = .ok (.iaload, 1) := by decide +kernel
theorem dR_produce_119 : decode prog_8_method_10_code 119 = .ok (.iconst 1, 1) := by decide +kernel
theorem dR_produce_120 : decode prog_8_method_10_code 120 = .ok (.isub, 1) := by decide +kernel
theorem dR_produce_121 : decode prog_8_method_10_code 121 = .ok (.ireturn, 1) := by decide +kernel
theorem dR_addOutput_0 : decode prog_8_method_8_code 0 = .ok (.iconst 4, 1) := by decide +kernel
theorem dR_addOutput_1 : decode prog_8_method_8_code 1 = .ok (.iload_n 1, 1) := by decide +kernel
theorem dR_addOutput_2 : decode prog_8_method_8_code 2 = .ok (.imul, 1) := by decide +kernel
theorem dR_addOutput_3 : decode prog_8_method_8_code 3 = .ok (.aload_n 0, 1) := by decide +kernel
theorem dR_addOutput_4 : decode prog_8_method_8_code 4 = .ok (.getfield 38, 3) := by decide +kernel
theorem dR_addOutput_7 : decode prog_8_method_8_code 7 = .ok (.iload_n 1, 1) := by decide +kernel
theorem dR_addOutput_8 : decode prog_8_method_8_code 8 = .ok (.iaload, 1) := by decide +kernel
theorem dR_addOutput_9 : decode prog_8_method_8_code 9 = .ok (.iadd, 1) := by decide +kernel
theorem dR_addOutput_10 : decode prog_8_method_8_code 10 = .ok (.istore 6, 2) := by decide +kernel
theorem dR_addOutput_12 : decode prog_8_method_8_code 12 = .ok (.aload_n 0, 1) := by decide +kernel
theorem dR_addOutput_13 : decode prog_8_method_8_code 13 = .ok (.getfield 44, 3) := by decide +kernel
theorem dR_addOutput_16 : decode prog_8_method_8_code 16 = .ok (.iload 6, 2) := by decide +kernel
theorem dR_addOutput_18 : decode prog_8_method_8_code 18 = .ok (.iload_n 2, 1) := by decide +kernel
theorem dR_addOutput_19 : decode prog_8_method_8_code 19 = .ok (.iastore, 1) := by decide +kernel
theorem dR_addOutput_20 : decode prog_8_method_8_code 20 = .ok (.aload_n 0, 1) := by decide +kernel
theorem dR_addOutput_21 : decode prog_8_method_8_code 21 = .ok (.getfield 47, 3) := by decide +kernel
theorem dR_addOutput_24 : decode prog_8_method_8_code 24 = .ok (.iload 6, 2) := by decide +kernel
theorem dR_addOutput_26 : decode prog_8_method_8_code 26 = .ok (.iload_n 3, 1) := by decide +kernel
theorem dR_addOutput_27 : decode prog_8_method_8_code 27 = .ok (.iastore, 1) := by decide +kernel
theorem dR_addOutput_28 : decode prog_8_method_8_code 28 = .ok (.aload_n 0, 1) := by decide +kernel
theorem dR_addOutput_29 : decode prog_8_method_8_code 29 = .ok (.getfield 50, 3) := by decide +kernel
theorem dR_addOutput_32 : decode prog_8_method_8_code 32 = .ok (.iload 6, 2) := by decide +kernel
theorem dR_addOutput_34 : decode prog_8_method_8_code 34 = .ok (.iload 4, 2) := by decide +kernel
theorem dR_addOutput_36 : decode prog_8_method_8_code 36 = .ok (.iastore, 1) := by decide +kernel
theorem dR_addOutput_37 : decode prog_8_method_8_code 37 = .ok (.aload_n 0, 1) := by decide +kernel
theorem dR_addOutput_38 : decode prog_8_method_8_code 38 = .ok (.getfield 53, 3) := by decide +kernel
theorem dR_addOutput_41 : decode prog_8_method_8_code 41 = .ok (.iload 6, 2) := by decide +kernel
theorem dR_addOutput_43 : decode prog_8_method_8_code 43 = .ok (.iload 5, 2) := by decide +kernel
theorem dR_addOutput_45 : decode prog_8_method_8_code 45 = .ok (.iastore, 1) := by decide +kernel
theorem dR_addOutput_46 : decode prog_8_method_8_code 46 = .ok (.aload_n 0, 1) := by decide +kernel
theorem dR_addOutput_47 : decode prog_8_method_8_code 47 = .ok (.getfield 56, 3) := by decide +kernel
theorem dR_addOutput_50 : decode prog_8_method_8_code 50 = .ok (.iload 6, 2) := by decide +kernel
theorem dR_addOutput_52 : decode prog_8_method_8_code 52 = .ok (.iconst (-1), 1) := by decide +kernel
theorem dR_addOutput_53 : decode prog_8_method_8_code 53 = .ok (.iastore, 1) := by decide +kernel
theorem dR_addOutput_54 : decode prog_8_method_8_code 54 = .ok (.aload_n 0, 1) := by decide +kernel
theorem dR_addOutput_55 : decode prog_8_method_8_code 55 = .ok (.getfield 59, 3) := by decide +kernel
theorem dR_addOutput_58 : decode prog_8_method_8_code 58 = .ok (.iload 6, 2) := by decide +kernel
theorem dR_addOutput_60 : decode prog_8_method_8_code 60 = .ok (.iconst (-1), 1) := by decide +kernel
theorem dR_addOutput_61 : decode prog_8_method_8_code 61 = .ok (.iastore, 1) := by decide +kernel
theorem dR_addOutput_62 : decode prog_8_method_8_code 62 = .ok (.aload_n 0, 1) := by decide +kernel
theorem dR_addOutput_63 : decode prog_8_method_8_code 63 = .ok (.getfield 38, 3) := by decide +kernel
theorem dR_addOutput_66 : decode prog_8_method_8_code 66 = .ok (.iload_n 1, 1) := by decide +kernel
theorem dR_addOutput_67 : decode prog_8_method_8_code 67 = .ok (.dup2, 1) := by decide +kernel
theorem dR_addOutput_68 : decode prog_8_method_8_code 68 = .ok (.iaload, 1) := by decide +kernel
theorem dR_addOutput_69 : decode prog_8_method_8_code 69 = .ok (.iconst 1, 1) := by decide +kernel
theorem dR_addOutput_70 : decode prog_8_method_8_code 70 = .ok (.iadd, 1) := by decide +kernel
theorem dR_addOutput_71 : decode prog_8_method_8_code 71 = .ok (.iastore, 1) := by decide +kernel
theorem dR_addOutput_72 : decode prog_8_method_8_code 72 = .ok (.return_, 1) := by decide +kernel
theorem dR_bind_0 : decode prog_8_method_11_code 0 = .ok (.aload_n 0, 1) := by decide +kernel
theorem dR_bind_1 : decode prog_8_method_11_code 1 = .ok (.iload_n 1, 1) := by decide +kernel
theorem dR_bind_2 : decode prog_8_method_11_code 2 = .ok (.iload_n 2, 1) := by decide +kernel
theorem dR_bind_3 : decode prog_8_method_11_code 3 = .ok (.invokevirtual 95, 3) := by decide +kernel
theorem dR_bind_6 : decode prog_8_method_11_code 6 = .ok (.ifCond .eq 22, 3) := by decide +kernel
theorem dR_bind_9 : decode prog_8_method_11_code 9 = .ok (.iload_n 3, 1) := by decide +kernel
theorem dR_bind_10 : decode prog_8_method_11_code 10 = .ok (.iconst (-1), 1) := by decide +kernel
theorem dR_bind_11 : decode prog_8_method_11_code 11 = .ok (.if_icmp .eq 12, 3) := by decide +kernel
theorem dR_bind_14 : decode prog_8_method_11_code 14 = .ok (.aload_n 0, 1) := by decide +kernel
theorem dR_bind_15 : decode prog_8_method_11_code 15 = .ok (.iload_n 1, 1) := by decide +kernel
theorem dR_bind_16 : decode prog_8_method_11_code 16 = .ok (.iload_n 3, 1) := by decide +kernel
theorem dR_bind_17 : decode prog_8_method_11_code 17 = .ok (.invokevirtual 95, 3) := by decide +kernel
theorem dR_bind_20 : decode prog_8_method_11_code 20 = .ok (.ifCond .eq 8, 3) := by decide +kernel
theorem dR_bind_23 : decode prog_8_method_11_code 23 = .ok (.iload_n 3, 1) := by decide +kernel
theorem dR_bind_24 : decode prog_8_method_11_code 24 = .ok (.iload_n 2, 1) := by decide +kernel
theorem dR_bind_25 : decode prog_8_method_11_code 25 = .ok (.if_icmp .ne 5, 3) := by decide +kernel
theorem dR_bind_28 : decode prog_8_method_11_code 28 = .ok (.iconst (-1), 1) := by decide +kernel
theorem dR_bind_29 : decode prog_8_method_11_code 29 = .ok (.ireturn, 1) := by decide +kernel
theorem dR_bind_30 : decode prog_8_method_11_code 30 = .ok (.aload_n 0, 1) := by decide +kernel
theorem dR_bind_31 : decode prog_8_method_11_code 31 = .ok (.getfield 22, 3) := by decide +kernel
theorem dR_bind_34 : decode prog_8_method_11_code 34 = .ok (.iload_n 1, 1) := by decide +kernel
theorem dR_bind_35 : decode prog_8_method_11_code 35 = .ok (.iaload, 1) := by decide +kernel
theorem dR_bind_36 : decode prog_8_method_11_code 36 = .ok (.ifCond .eq 6, 3) := by decide +kernel
theorem dR_bind_39 : decode prog_8_method_11_code 39 = .ok (.bipush (-2), 2) := by decide +kernel
theorem dR_bind_41 : decode prog_8_method_11_code 41 = .ok (.ireturn, 1) := by decide +kernel
theorem dR_bind_42 : decode prog_8_method_11_code 42 = .ok (.aload_n 0, 1) := by decide +kernel
theorem dR_bind_43 : decode prog_8_method_11_code 43 = .ok (.getfield 56, 3) := by decide +kernel
theorem dR_bind_46 : decode prog_8_method_11_code 46 = .ok (.iconst 4, 1) := by decide +kernel
theorem dR_bind_47 : decode prog_8_method_11_code 47 = .ok (.iload_n 1, 1) := by decide +kernel
theorem dR_bind_48 : decode prog_8_method_11_code 48 = .ok (.imul, 1) := by decide +kernel
theorem dR_bind_49 : decode prog_8_method_11_code 49 = .ok (.iload_n 2, 1) := by decide +kernel
theorem dR_bind_50 : decode prog_8_method_11_code 50 = .ok (.iadd, 1) := by decide +kernel
theorem dR_bind_51 : decode prog_8_method_11_code 51 = .ok (.iload_n 3, 1) := by decide +kernel
theorem dR_bind_52 : decode prog_8_method_11_code 52 = .ok (.iastore, 1) := by decide +kernel
theorem dR_bind_53 : decode prog_8_method_11_code 53 = .ok (.iconst 0, 1) := by decide +kernel
theorem dR_bind_54 : decode prog_8_method_11_code 54 = .ok (.ireturn, 1) := by decide +kernel
theorem dR_pay_0 : decode prog_8_method_16_code 0 = .ok (.aload_n 0, 1) := by decide +kernel
theorem dR_pay_1 : decode prog_8_method_16_code 1 = .ok (.iload_n 1, 1) := by decide +kernel
theorem dR_pay_2 : decode prog_8_method_16_code 2 = .ok (.invokevirtual 87, 3) := by decide +kernel
theorem dR_pay_5 : decode prog_8_method_16_code 5 = .ok (.ifCond .eq 33, 3) := by decide +kernel
theorem dR_pay_8 : decode prog_8_method_16_code 8 = .ok (.aload_n 0, 1) := by decide +kernel
theorem dR_pay_9 : decode prog_8_method_16_code 9 = .ok (.iload_n 2, 1) := by decide +kernel
theorem dR_pay_10 : decode prog_8_method_16_code 10 = .ok (.invokevirtual 91, 3) := by decide +kernel
theorem dR_pay_13 : decode prog_8_method_16_code 13 = .ok (.ifCond .eq 25, 3) := by decide +kernel
theorem dR_pay_16 : decode prog_8_method_16_code 16 = .ok (.aload_n 0, 1) := by decide +kernel
theorem dR_pay_17 : decode prog_8_method_16_code 17 = .ok (.iload_n 3, 1) := by decide +kernel
theorem dR_pay_18 : decode prog_8_method_16_code 18 = .ok (.invokevirtual 91, 3) := by decide +kernel
theorem dR_pay_21 : decode prog_8_method_16_code 21 = .ok (.ifCond .eq 17, 3) := by decide +kernel
theorem dR_pay_24 : decode prog_8_method_16_code 24 = .ok (.iload 4, 2) := by decide +kernel
theorem dR_pay_26 : decode prog_8_method_16_code 26 = .ok (.iconst 1, 1) := by decide +kernel
theorem dR_pay_27 : decode prog_8_method_16_code 27 = .ok (.if_icmp .lt 11, 3) := by decide +kernel
theorem dR_pay_30 : decode prog_8_method_16_code 30 = .ok (.iload 4, 2) := by decide +kernel
theorem dR_pay_32 : decode prog_8_method_16_code 32 = .ok (.sipush 1000, 3) := by decide +kernel
theorem dR_pay_35 : decode prog_8_method_16_code 35 = .ok (.if_icmp .le 5, 3) := by decide +kernel
theorem dR_pay_38 : decode prog_8_method_16_code 38 = .ok (.iconst (-1), 1) := by decide +kernel
theorem dR_pay_39 : decode prog_8_method_16_code 39 = .ok (.ireturn, 1) := by decide +kernel
theorem dR_pay_40 : decode prog_8_method_16_code 40 = .ok (.aload_n 0, 1) := by decide +kernel
theorem dR_pay_41 : decode prog_8_method_16_code 41 = .ok (.getfield 22, 3) := by decide +kernel
theorem dR_pay_44 : decode prog_8_method_16_code 44 = .ok (.iload_n 1, 1) := by decide +kernel
theorem dR_pay_45 : decode prog_8_method_16_code 45 = .ok (.iaload, 1) := by decide +kernel
theorem dR_pay_46 : decode prog_8_method_16_code 46 = .ok (.ifCond .eq 6, 3) := by decide +kernel
theorem dR_pay_49 : decode prog_8_method_16_code 49 = .ok (.bipush (-2), 2) := by decide +kernel
theorem dR_pay_51 : decode prog_8_method_16_code 51 = .ok (.ireturn, 1) := by decide +kernel
theorem dR_pay_52 : decode prog_8_method_16_code 52 = .ok (.iconst 0, 1) := by decide +kernel
theorem dR_pay_53 : decode prog_8_method_16_code 53 = .ok (.istore 5, 2) := by decide +kernel
theorem dR_pay_55 : decode prog_8_method_16_code 55 = .ok (.iconst 0, 1) := by decide +kernel
theorem dR_pay_56 : decode prog_8_method_16_code 56 = .ok (.istore 6, 2) := by decide +kernel
theorem dR_pay_58 : decode prog_8_method_16_code 58 = .ok (.iconst 0, 1) := by decide +kernel
theorem dR_pay_59 : decode prog_8_method_16_code 59 = .ok (.istore 7, 2) := by decide +kernel
theorem dR_pay_61 : decode prog_8_method_16_code 61 = .ok (.iload 7, 2) := by decide +kernel
theorem dR_pay_63 : decode prog_8_method_16_code 63 = .ok (.bipush 80, 2) := by decide +kernel
theorem dR_pay_65 : decode prog_8_method_16_code 65 = .ok (.if_icmp .ge 42, 3) := by decide +kernel
theorem dR_pay_68 : decode prog_8_method_16_code 68 = .ok (.iload 5, 2) := by decide +kernel
theorem dR_pay_70 : decode prog_8_method_16_code 70 = .ok (.iload 4, 2) := by decide +kernel
theorem dR_pay_72 : decode prog_8_method_16_code 72 = .ok (.if_icmp .ge 35, 3) := by decide +kernel
theorem dR_pay_75 : decode prog_8_method_16_code 75 = .ok (.aload_n 0, 1) := by decide +kernel
theorem dR_pay_76 : decode prog_8_method_16_code 76 = .ok (.iload_n 1, 1) := by decide +kernel
theorem dR_pay_77 : decode prog_8_method_16_code 77 = .ok (.iload_n 2, 1) := by decide +kernel
theorem dR_pay_78 : decode prog_8_method_16_code 78 = .ok (.iload 7, 2) := by decide +kernel
theorem dR_pay_80 : decode prog_8_method_16_code 80 = .ok (.invokevirtual 119, 3) := by decide +kernel
theorem dR_pay_83 : decode prog_8_method_16_code 83 = .ok (.ifCond .eq 18, 3) := by decide +kernel
theorem dR_pay_86 : decode prog_8_method_16_code 86 = .ok (.iload 5, 2) := by decide +kernel
theorem dR_pay_88 : decode prog_8_method_16_code 88 = .ok (.aload_n 0, 1) := by decide +kernel
theorem dR_pay_89 : decode prog_8_method_16_code 89 = .ok (.getfield 53, 3) := by decide +kernel
theorem dR_pay_92 : decode prog_8_method_16_code 92 = .ok (.iload 7, 2) := by decide +kernel
theorem dR_pay_94 : decode prog_8_method_16_code 94 = .ok (.iaload, 1) := by decide +kernel
theorem dR_pay_95 : decode prog_8_method_16_code 95 = .ok (.iadd, 1) := by decide +kernel
theorem dR_pay_96 : decode prog_8_method_16_code 96 = .ok (.istore 5, 2) := by decide +kernel
theorem dR_pay_98 : decode prog_8_method_16_code 98 = .ok (.iinc 6 1, 3) := by decide +kernel
theorem dR_pay_101 : decode prog_8_method_16_code 101 = .ok (.iinc 7 1, 3) := by decide +kernel
theorem dR_pay_104 : decode prog_8_method_16_code 104 = .ok (.goto (-43), 3) := by decide +kernel
theorem dR_pay_107 : decode prog_8_method_16_code 107 = .ok (.iload 5, 2) := by decide +kernel
theorem dR_pay_109 : decode prog_8_method_16_code 109 = .ok (.iload 4, 2) := by decide +kernel
theorem dR_pay_111 : decode prog_8_method_16_code 111 = .ok (.if_icmp .ge 6, 3) := by decide +kernel
theorem dR_pay_114 : decode prog_8_method_16_code 114 = .ok (.bipush (-7), 2) := by decide +kernel
theorem dR_pay_116 : decode prog_8_method_16_code 116 = .ok (.ireturn, 1) := by decide +kernel
theorem dR_pay_117 : decode prog_8_method_16_code 117 = .ok (.iload 5, 2) := by decide +kernel
theorem dR_pay_119 : decode prog_8_method_16_code 119 = .ok (.iload 4, 2) := by decide +kernel
theorem dR_pay_121 : decode prog_8_method_16_code 121 = .ok (.if_icmp .le 7, 3) := by decide +kernel
theorem dR_pay_124 : decode prog_8_method_16_code 124 = .ok (.iconst 2, 1) := by decide +kernel
theorem dR_pay_125 : decode prog_8_method_16_code 125 = .ok (.goto 4, 3) := by decide +kernel
theorem dR_pay_128 : decode prog_8_method_16_code 128 = .ok (.iconst 1, 1) := by decide +kernel
theorem dR_pay_129 : decode prog_8_method_16_code 129 = .ok (.istore 8, 2) := by decide +kernel
theorem dR_pay_131 : decode prog_8_method_16_code 131 = .ok (.aload_n 0, 1) := by decide +kernel
theorem dR_pay_132 : decode prog_8_method_16_code 132 = .ok (.getfield 35, 3) := by decide +kernel
theorem dR_pay_135 : decode prog_8_method_16_code 135 = .ok (.iload_n 1, 1) := by decide +kernel
theorem dR_pay_136 : decode prog_8_method_16_code 136 = .ok (.iaload, 1) := by decide +kernel
theorem dR_pay_137 : decode prog_8_method_16_code 137 = .ok (.iload 6, 2) := by decide +kernel
theorem dR_pay_139 : decode prog_8_method_16_code 139 = .ok (.iadd, 1) := by decide +kernel
theorem dR_pay_140 : decode prog_8_method_16_code 140 = .ok (.iconst 4, 1) := by decide +kernel
theorem dR_pay_141 : decode prog_8_method_16_code 141 = .ok (.if_icmp .gt 16, 3) := by decide +kernel
theorem dR_pay_144 : decode prog_8_method_16_code 144 = .ok (.aload_n 0, 1) := by decide +kernel
theorem dR_pay_145 : decode prog_8_method_16_code 145 = .ok (.getfield 38, 3) := by decide +kernel
theorem dR_pay_148 : decode prog_8_method_16_code 148 = .ok (.iload_n 1, 1) := by decide +kernel
theorem dR_pay_149 : decode prog_8_method_16_code 149 = .ok (.iaload, 1) := by decide +kernel
theorem dR_pay_150 : decode prog_8_method_16_code 150 = .ok (.iload 8, 2) := by decide +kernel
theorem dR_pay_152 : decode prog_8_method_16_code 152 = .ok (.iadd, 1) := by decide +kernel
theorem dR_pay_153 : decode prog_8_method_16_code 153 = .ok (.iconst 4, 1) := by decide +kernel
theorem dR_pay_154 : decode prog_8_method_16_code 154 = .ok (.if_icmp .le 6, 3) := by decide +kernel
theorem dR_pay_157 : decode prog_8_method_16_code 157 = .ok (.bipush (-6), 2) := by decide +kernel
theorem dR_pay_159 : decode prog_8_method_16_code 159 = .ok (.ireturn, 1) := by decide +kernel
theorem dR_pay_160 : decode prog_8_method_16_code 160 = .ok (.iconst 0, 1) := by decide +kernel
theorem dR_pay_161 : decode prog_8_method_16_code 161 = .ok (.istore 9, 2) := by decide +kernel
theorem dR_pay_163 : decode prog_8_method_16_code 163 = .ok (.iload 9, 2) := by decide +kernel
theorem dR_pay_165 : decode prog_8_method_16_code 165 = .ok (.iload 7, 2) := by decide +kernel
theorem dR_pay_167 : decode prog_8_method_16_code 167 = .ok (.if_icmp .ge 27, 3) := by decide +kernel
theorem dR_pay_170 : decode prog_8_method_16_code 170 = .ok (.aload_n 0, 1) := by decide +kernel
theorem dR_pay_171 : decode prog_8_method_16_code 171 = .ok (.iload_n 1, 1) := by decide +kernel
theorem dR_pay_172 : decode prog_8_method_16_code 172 = .ok (.iload_n 2, 1) := by decide +kernel
theorem dR_pay_173 : decode prog_8_method_16_code 173 = .ok (.iload 9, 2) := by decide +kernel
theorem dR_pay_175 : decode prog_8_method_16_code 175 = .ok (.invokevirtual 119, 3) := by decide +kernel
theorem dR_pay_178 : decode prog_8_method_16_code 178 = .ok (.ifCond .eq 10, 3) := by decide +kernel
theorem dR_pay_181 : decode prog_8_method_16_code 181 = .ok (.aload_n 0, 1) := by decide +kernel
theorem dR_pay_182 : decode prog_8_method_16_code 182 = .ok (.iload_n 1, 1) := by decide +kernel
theorem dR_pay_183 : decode prog_8_method_16_code 183 = .ok (.iload 9, 2) := by decide +kernel
theorem dR_pay_185 : decode prog_8_method_16_code 185 = .ok (.invokevirtual 102, 3) := by decide +kernel
theorem dR_pay_188 : decode prog_8_method_16_code 188 = .ok (.iinc 9 1, 3) := by decide +kernel
theorem dR_pay_191 : decode prog_8_method_16_code 191 = .ok (.goto (-28), 3) := by decide +kernel
theorem dR_pay_194 : decode prog_8_method_16_code 194 = .ok (.aload_n 0, 1) := by decide +kernel
theorem dR_pay_195 : decode prog_8_method_16_code 195 = .ok (.iload_n 1, 1) := by decide +kernel
theorem dR_pay_196 : decode prog_8_method_16_code 196 = .ok (.iconst 0, 1) := by decide +kernel
theorem dR_pay_197 : decode prog_8_method_16_code 197 = .ok (.iload_n 2, 1) := by decide +kernel
theorem dR_pay_198 : decode prog_8_method_16_code 198 = .ok (.iload_n 3, 1) := by decide +kernel
theorem dR_pay_199 : decode prog_8_method_16_code 199 = .ok (.iload 4, 2) := by decide +kernel
theorem dR_pay_201 : decode prog_8_method_16_code 201 = .ok (.invokevirtual 106, 3) := by decide +kernel
theorem dR_pay_204 : decode prog_8_method_16_code 204 = .ok (.iload 8, 2) := by decide +kernel
theorem dR_pay_206 : decode prog_8_method_16_code 206 = .ok (.iconst 2, 1) := by decide +kernel
theorem dR_pay_207 : decode prog_8_method_16_code 207 = .ok (.if_icmp .ne 21, 3) := by decide +kernel
theorem dR_pay_210 : decode prog_8_method_16_code 210 = .ok (.aload_n 0, 1) := by decide +kernel
theorem dR_pay_211 : decode prog_8_method_16_code 211 = .ok (.iload_n 1, 1) := by decide +kernel
theorem dR_pay_212 : decode prog_8_method_16_code 212 = .ok (.iconst 0, 1) := by decide +kernel
theorem dR_pay_213 : decode prog_8_method_16_code 213 = .ok (.iload_n 2, 1) := by decide +kernel
theorem dR_pay_214 : decode prog_8_method_16_code 214 = .ok (.aload_n 0, 1) := by decide +kernel
theorem dR_pay_215 : decode prog_8_method_16_code 215 = .ok (.getfield 7, 3) := by decide +kernel
theorem dR_pay_218 : decode prog_8_method_16_code 218 = .ok (.iload_n 1, 1) := by decide +kernel
theorem dR_pay_219 : decode prog_8_method_16_code 219 = .ok (.iaload, 1) := by decide +kernel
theorem dR_pay_220 : decode prog_8_method_16_code 220 = .ok (.iload 5, 2) := by decide +kernel
theorem dR_pay_222 : decode prog_8_method_16_code 222 = .ok (.iload 4, 2) := by decide +kernel
theorem dR_pay_224 : decode prog_8_method_16_code 224 = .ok (.isub, 1) := by decide +kernel
theorem dR_pay_225 : decode prog_8_method_16_code 225 = .ok (.invokevirtual 106, 3) := by decide +kernel
theorem dR_pay_228 : decode prog_8_method_16_code 228 = .ok (.iload 6, 2) := by decide +kernel
theorem dR_pay_230 : decode prog_8_method_16_code 230 = .ok (.ireturn, 1) := by decide +kernel
theorem dR_coin_0 : decode prog_8_method_15_code 0 = .ok (.aload_n 0, 1) := by decide +kernel
theorem dR_coin_1 : decode prog_8_method_15_code 1 = .ok (.getfield 7, 3) := by decide +kernel
theorem dR_coin_4 : decode prog_8_method_15_code 4 = .ok (.iload_n 1, 1) := by decide +kernel
theorem dR_coin_5 : decode prog_8_method_15_code 5 = .ok (.iaload, 1) := by decide +kernel
theorem dR_coin_6 : decode prog_8_method_15_code 6 = .ok (.istore 4, 2) := by decide +kernel
theorem dR_coin_8 : decode prog_8_method_15_code 8 = .ok (.aload_n 0, 1) := by decide +kernel
theorem dR_coin_9 : decode prog_8_method_15_code 9 = .ok (.iload 4, 2) := by decide +kernel
theorem dR_coin_11 : decode prog_8_method_15_code 11 = .ok (.iload_n 3, 1) := by decide +kernel
theorem dR_coin_12 : decode prog_8_method_15_code 12 = .ok (.invokevirtual 113, 3) := by decide +kernel
theorem dR_coin_15 : decode prog_8_method_15_code 15 = .ok (.ifCond .eq 63, 3) := by decide +kernel
theorem dR_coin_18 : decode prog_8_method_15_code 18 = .ok (.aload_n 0, 1) := by decide +kernel
theorem dR_coin_19 : decode prog_8_method_15_code 19 = .ok (.getfield 44, 3) := by decide +kernel
theorem dR_coin_22 : decode prog_8_method_15_code 22 = .ok (.iload_n 3, 1) := by decide +kernel
theorem dR_coin_23 : decode prog_8_method_15_code 23 = .ok (.iaload, 1) := by decide +kernel
theorem dR_coin_24 : decode prog_8_method_15_code 24 = .ok (.ifCond .ne 54, 3) := by decide +kernel
theorem dR_coin_27 : decode prog_8_method_15_code 27 = .ok (.aload_n 0, 1) := by decide +kernel
theorem dR_coin_28 : decode prog_8_method_15_code 28 = .ok (.getfield 47, 3) := by decide +kernel
theorem dR_coin_31 : decode prog_8_method_15_code 31 = .ok (.iload_n 3, 1) := by decide +kernel
theorem dR_coin_32 : decode prog_8_method_15_code 32 = .ok (.iaload, 1) := by decide +kernel
theorem dR_coin_33 : decode prog_8_method_15_code 33 = .ok (.iload_n 2, 1) := by decide +kernel
theorem dR_coin_34 : decode prog_8_method_15_code 34 = .ok (.if_icmp .ne 44, 3) := by decide +kernel
theorem dR_coin_37 : decode prog_8_method_15_code 37 = .ok (.aload_n 0, 1) := by decide +kernel
theorem dR_coin_38 : decode prog_8_method_15_code 38 = .ok (.getfield 56, 3) := by decide +kernel
theorem dR_coin_41 : decode prog_8_method_15_code 41 = .ok (.iload_n 3, 1) := by decide +kernel
theorem dR_coin_42 : decode prog_8_method_15_code 42 = .ok (.iaload, 1) := by decide +kernel
theorem dR_coin_43 : decode prog_8_method_15_code 43 = .ok (.iconst (-1), 1) := by decide +kernel
theorem dR_coin_44 : decode prog_8_method_15_code 44 = .ok (.if_icmp .ne 34, 3) := by decide +kernel
theorem dR_coin_47 : decode prog_8_method_15_code 47 = .ok (.aload_n 0, 1) := by decide +kernel
theorem dR_coin_48 : decode prog_8_method_15_code 48 = .ok (.getfield 13, 3) := by decide +kernel
theorem dR_coin_51 : decode prog_8_method_15_code 51 = .ok (.iload_n 3, 1) := by decide +kernel
theorem dR_coin_52 : decode prog_8_method_15_code 52 = .ok (.iconst 4, 1) := by decide +kernel
theorem dR_coin_53 : decode prog_8_method_15_code 53 = .ok (.idiv, 1) := by decide +kernel
theorem dR_coin_54 : decode prog_8_method_15_code 54 = .ok (.iaload, 1) := by decide +kernel
theorem dR_coin_55 : decode prog_8_method_15_code 55 = .ok (.aload_n 0, 1) := by decide +kernel
theorem dR_coin_56 : decode prog_8_method_15_code 56 = .ok (.getfield 13, 3) := by decide +kernel
theorem dR_coin_59 : decode prog_8_method_15_code 59 = .ok (.iload_n 1, 1) := by decide +kernel
theorem dR_coin_60 : decode prog_8_method_15_code 60 = .ok (.iaload, 1) := by decide +kernel
theorem dR_coin_61 : decode prog_8_method_15_code 61 = .ok (.if_icmp .ne 17, 3) := by decide +kernel
theorem dR_coin_64 : decode prog_8_method_15_code 64 = .ok (.aload_n 0, 1) := by decide +kernel
theorem dR_coin_65 : decode prog_8_method_15_code 65 = .ok (.iload 4, 2) := by decide +kernel
theorem dR_coin_67 : decode prog_8_method_15_code 67 = .ok (.iload_n 3, 1) := by decide +kernel
theorem dR_coin_68 : decode prog_8_method_15_code 68 = .ok (.invokevirtual 116, 3) := by decide +kernel
theorem dR_coin_71 : decode prog_8_method_15_code 71 = .ok (.ifCond .ne 7, 3) := by decide +kernel
theorem dR_coin_74 : decode prog_8_method_15_code 74 = .ok (.iconst 1, 1) := by decide +kernel
theorem dR_coin_75 : decode prog_8_method_15_code 75 = .ok (.goto 4, 3) := by decide +kernel
theorem dR_coin_78 : decode prog_8_method_15_code 78 = .ok (.iconst 0, 1) := by decide +kernel
theorem dR_coin_79 : decode prog_8_method_15_code 79 = .ok (.ireturn, 1) := by decide +kernel
theorem dR_inVault_0 : decode prog_8_method_13_code 0 = .ok (.iload_n 2, 1) := by decide +kernel
theorem dR_inVault_1 : decode prog_8_method_13_code 1 = .ok (.iconst 4, 1) := by decide +kernel
theorem dR_inVault_2 : decode prog_8_method_13_code 2 = .ok (.idiv, 1) := by decide +kernel
theorem dR_inVault_3 : decode prog_8_method_13_code 3 = .ok (.istore_n 3, 1) := by decide +kernel
theorem dR_inVault_4 : decode prog_8_method_13_code 4 = .ok (.aload_n 0, 1) := by decide +kernel
theorem dR_inVault_5 : decode prog_8_method_13_code 5 = .ok (.iload_n 3, 1) := by decide +kernel
theorem dR_inVault_6 : decode prog_8_method_13_code 6 = .ok (.iload_n 2, 1) := by decide +kernel
theorem dR_inVault_7 : decode prog_8_method_13_code 7 = .ok (.iconst 4, 1) := by decide +kernel
theorem dR_inVault_8 : decode prog_8_method_13_code 8 = .ok (.irem, 1) := by decide +kernel
theorem dR_inVault_9 : decode prog_8_method_13_code 9 = .ok (.invokevirtual 95, 3) := by decide +kernel
theorem dR_inVault_12 : decode prog_8_method_13_code 12 = .ok (.ifCond .eq 27, 3) := by decide +kernel
theorem dR_inVault_15 : decode prog_8_method_13_code 15 = .ok (.aload_n 0, 1) := by decide +kernel
theorem dR_inVault_16 : decode prog_8_method_13_code 16 = .ok (.getfield 62, 3) := by decide +kernel
theorem dR_inVault_19 : decode prog_8_method_13_code 19 = .ok (.bipush 20, 2) := by decide +kernel
theorem dR_inVault_21 : decode prog_8_method_13_code 21 = .ok (.iload_n 1, 1) := by decide +kernel
theorem dR_inVault_22 : decode prog_8_method_13_code 22 = .ok (.imul, 1) := by decide +kernel
theorem dR_inVault_23 : decode prog_8_method_13_code 23 = .ok (.iload_n 3, 1) := by decide +kernel
theorem dR_inVault_24 : decode prog_8_method_13_code 24 = .ok (.iadd, 1) := by decide +kernel
theorem dR_inVault_25 : decode prog_8_method_13_code 25 = .ok (.iaload, 1) := by decide +kernel
theorem dR_inVault_26 : decode prog_8_method_13_code 26 = .ok (.iconst 2, 1) := by decide +kernel
theorem dR_inVault_27 : decode prog_8_method_13_code 27 = .ok (.if_icmp .ne 12, 3) := by decide +kernel
theorem dR_inVault_30 : decode prog_8_method_13_code 30 = .ok (.aload_n 0, 1) := by decide +kernel
theorem dR_inVault_31 : decode prog_8_method_13_code 31 = .ok (.iload_n 2, 1) := by decide +kernel
theorem dR_inVault_32 : decode prog_8_method_13_code 32 = .ok (.iload_n 1, 1) := by decide +kernel
theorem dR_inVault_33 : decode prog_8_method_13_code 33 = .ok (.invokevirtual 110, 3) := by decide +kernel
theorem dR_inVault_36 : decode prog_8_method_13_code 36 = .ok (.ifCond .ne 5, 3) := by decide +kernel
theorem dR_inVault_39 : decode prog_8_method_13_code 39 = .ok (.iconst 0, 1) := by decide +kernel
theorem dR_inVault_40 : decode prog_8_method_13_code 40 = .ok (.ireturn, 1) := by decide +kernel
theorem dR_inVault_41 : decode prog_8_method_13_code 41 = .ok (.iconst 0, 1) := by decide +kernel
theorem dR_inVault_42 : decode prog_8_method_13_code 42 = .ok (.istore 4, 2) := by decide +kernel
theorem dR_inVault_44 : decode prog_8_method_13_code 44 = .ok (.iload 4, 2) := by decide +kernel
theorem dR_inVault_46 : decode prog_8_method_13_code 46 = .ok (.aload_n 0, 1) := by decide +kernel
theorem dR_inVault_47 : decode prog_8_method_13_code 47 = .ok (.getfield 83, 3) := by decide +kernel
theorem dR_inVault_50 : decode prog_8_method_13_code 50 = .ok (.if_icmp .ge 36, 3) := by decide +kernel
theorem dR_inVault_53 : decode prog_8_method_13_code 53 = .ok (.aload_n 0, 1) := by decide +kernel
theorem dR_inVault_54 : decode prog_8_method_13_code 54 = .ok (.getfield 62, 3) := by decide +kernel
theorem dR_inVault_57 : decode prog_8_method_13_code 57 = .ok (.bipush 20, 2) := by decide +kernel
theorem dR_inVault_59 : decode prog_8_method_13_code 59 = .ok (.iload_n 1, 1) := by decide +kernel
theorem dR_inVault_60 : decode prog_8_method_13_code 60 = .ok (.imul, 1) := by decide +kernel
theorem dR_inVault_61 : decode prog_8_method_13_code 61 = .ok (.iload 4, 2) := by decide +kernel
theorem dR_inVault_63 : decode prog_8_method_13_code 63 = .ok (.iadd, 1) := by decide +kernel
theorem dR_inVault_64 : decode prog_8_method_13_code 64 = .ok (.iaload, 1) := by decide +kernel
theorem dR_inVault_65 : decode prog_8_method_13_code 65 = .ok (.ifCond .le 15, 3) := by decide +kernel
theorem dR_inVault_68 : decode prog_8_method_13_code 68 = .ok (.aload_n 0, 1) := by decide +kernel
theorem dR_inVault_69 : decode prog_8_method_13_code 69 = .ok (.iload 4, 2) := by decide +kernel
theorem dR_inVault_71 : decode prog_8_method_13_code 71 = .ok (.iload_n 2, 1) := by decide +kernel
theorem dR_inVault_72 : decode prog_8_method_13_code 72 = .ok (.invokevirtual 99, 3) := by decide +kernel
theorem dR_inVault_75 : decode prog_8_method_13_code 75 = .ok (.ifCond .eq 5, 3) := by decide +kernel
theorem dR_inVault_78 : decode prog_8_method_13_code 78 = .ok (.iconst 0, 1) := by decide +kernel
theorem dR_inVault_79 : decode prog_8_method_13_code 79 = .ok (.ireturn, 1) := by decide +kernel
theorem dR_inVault_80 : decode prog_8_method_13_code 80 = .ok (.iinc 4 1, 3) := by decide +kernel
theorem dR_inVault_83 : decode prog_8_method_13_code 83 = .ok (.goto (-39), 3) := by decide +kernel
theorem dR_inVault_86 : decode prog_8_method_13_code 86 = .ok (.iconst 1, 1) := by decide +kernel
theorem dR_inVault_87 : decode prog_8_method_13_code 87 = .ok (.ireturn, 1) := by decide +kernel
theorem dR_concerns_0 : decode prog_8_method_12_code 0 = .ok (.aload_n 0, 1) := by decide +kernel
theorem dR_concerns_1 : decode prog_8_method_12_code 1 = .ok (.getfield 44, 3) := by decide +kernel
theorem dR_concerns_4 : decode prog_8_method_12_code 4 = .ok (.iload_n 1, 1) := by decide +kernel
theorem dR_concerns_5 : decode prog_8_method_12_code 5 = .ok (.iaload, 1) := by decide +kernel
theorem dR_concerns_6 : decode prog_8_method_12_code 6 = .ok (.ifCond .ne 13, 3) := by decide +kernel
theorem dR_concerns_9 : decode prog_8_method_12_code 9 = .ok (.aload_n 0, 1) := by decide +kernel
theorem dR_concerns_10 : decode prog_8_method_12_code 10 = .ok (.getfield 50, 3) := by decide +kernel
theorem dR_concerns_13 : decode prog_8_method_12_code 13 = .ok (.iload_n 1, 1) := by decide +kernel
theorem dR_concerns_14 : decode prog_8_method_12_code 14 = .ok (.iaload, 1) := by decide +kernel
theorem dR_concerns_15 : decode prog_8_method_12_code 15 = .ok (.iload_n 2, 1) := by decide +kernel
theorem dR_concerns_16 : decode prog_8_method_12_code 16 = .ok (.if_icmp .eq 33, 3) := by decide +kernel
theorem dR_concerns_19 : decode prog_8_method_12_code 19 = .ok (.aload_n 0, 1) := by decide +kernel
theorem dR_concerns_20 : decode prog_8_method_12_code 20 = .ok (.getfield 44, 3) := by decide +kernel
theorem dR_concerns_23 : decode prog_8_method_12_code 23 = .ok (.iload_n 1, 1) := by decide +kernel
theorem dR_concerns_24 : decode prog_8_method_12_code 24 = .ok (.iaload, 1) := by decide +kernel
theorem dR_concerns_25 : decode prog_8_method_12_code 25 = .ok (.iconst 1, 1) := by decide +kernel
theorem dR_concerns_26 : decode prog_8_method_12_code 26 = .ok (.if_icmp .ne 27, 3) := by decide +kernel
theorem dR_concerns_29 : decode prog_8_method_12_code 29 = .ok (.aload_n 0, 1) := by decide +kernel
theorem dR_concerns_30 : decode prog_8_method_12_code 30 = .ok (.getfield 47, 3) := by decide +kernel
theorem dR_concerns_33 : decode prog_8_method_12_code 33 = .ok (.iload_n 1, 1) := by decide +kernel
theorem dR_concerns_34 : decode prog_8_method_12_code 34 = .ok (.iaload, 1) := by decide +kernel
theorem dR_concerns_35 : decode prog_8_method_12_code 35 = .ok (.iload_n 2, 1) := by decide +kernel
theorem dR_concerns_36 : decode prog_8_method_12_code 36 = .ok (.if_icmp .eq 13, 3) := by decide +kernel
theorem dR_concerns_39 : decode prog_8_method_12_code 39 = .ok (.aload_n 0, 1) := by decide +kernel
theorem dR_concerns_40 : decode prog_8_method_12_code 40 = .ok (.getfield 50, 3) := by decide +kernel
theorem dR_concerns_43 : decode prog_8_method_12_code 43 = .ok (.iload_n 1, 1) := by decide +kernel
theorem dR_concerns_44 : decode prog_8_method_12_code 44 = .ok (.iaload, 1) := by decide +kernel
theorem dR_concerns_45 : decode prog_8_method_12_code 45 = .ok (.iload_n 2, 1) := by decide +kernel
theorem dR_concerns_46 : decode prog_8_method_12_code 46 = .ok (.if_icmp .ne 7, 3) := by decide +kernel
theorem dR_concerns_49 : decode prog_8_method_12_code 49 = .ok (.iconst 1, 1) := by decide +kernel
theorem dR_concerns_50 : decode prog_8_method_12_code 50 = .ok (.goto 4, 3) := by decide +kernel
theorem dR_concerns_53 : decode prog_8_method_12_code 53 = .ok (.iconst 0, 1) := by decide +kernel
theorem dR_concerns_54 : decode prog_8_method_12_code 54 = .ok (.ireturn, 1) := by decide +kernel
theorem dR_held_0 : decode prog_8_method_14_code 0 = .ok (.iconst 0, 1) := by decide +kernel
theorem dR_held_1 : decode prog_8_method_14_code 1 = .ok (.istore_n 3, 1) := by decide +kernel
theorem dR_held_2 : decode prog_8_method_14_code 2 = .ok (.iload_n 3, 1) := by decide +kernel
theorem dR_held_3 : decode prog_8_method_14_code 3 = .ok (.aload_n 0, 1) := by decide +kernel
theorem dR_held_4 : decode prog_8_method_14_code 4 = .ok (.getfield 83, 3) := by decide +kernel
theorem dR_held_7 : decode prog_8_method_14_code 7 = .ok (.if_icmp .ge 40, 3) := by decide +kernel
theorem dR_held_10 : decode prog_8_method_14_code 10 = .ok (.aload_n 0, 1) := by decide +kernel
theorem dR_held_11 : decode prog_8_method_14_code 11 = .ok (.getfield 7, 3) := by decide +kernel
theorem dR_held_14 : decode prog_8_method_14_code 14 = .ok (.iload_n 3, 1) := by decide +kernel
theorem dR_held_15 : decode prog_8_method_14_code 15 = .ok (.iaload, 1) := by decide +kernel
theorem dR_held_16 : decode prog_8_method_14_code 16 = .ok (.iload_n 1, 1) := by decide +kernel
theorem dR_held_17 : decode prog_8_method_14_code 17 = .ok (.if_icmp .ne 24, 3) := by decide +kernel
theorem dR_held_20 : decode prog_8_method_14_code 20 = .ok (.aload_n 0, 1) := by decide +kernel
theorem dR_held_21 : decode prog_8_method_14_code 21 = .ok (.getfield 22, 3) := by decide +kernel
theorem dR_held_24 : decode prog_8_method_14_code 24 = .ok (.iload_n 3, 1) := by decide +kernel
theorem dR_held_25 : decode prog_8_method_14_code 25 = .ok (.iaload, 1) := by decide +kernel
theorem dR_held_26 : decode prog_8_method_14_code 26 = .ok (.iconst 2, 1) := by decide +kernel
theorem dR_held_27 : decode prog_8_method_14_code 27 = .ok (.if_icmp .gt 14, 3) := by decide +kernel
theorem dR_held_30 : decode prog_8_method_14_code 30 = .ok (.aload_n 0, 1) := by decide +kernel
theorem dR_held_31 : decode prog_8_method_14_code 31 = .ok (.iload_n 3, 1) := by decide +kernel
theorem dR_held_32 : decode prog_8_method_14_code 32 = .ok (.iload_n 2, 1) := by decide +kernel
theorem dR_held_33 : decode prog_8_method_14_code 33 = .ok (.invokevirtual 99, 3) := by decide +kernel
theorem dR_held_36 : decode prog_8_method_14_code 36 = .ok (.ifCond .eq 5, 3) := by decide +kernel
theorem dR_held_39 : decode prog_8_method_14_code 39 = .ok (.iconst 1, 1) := by decide +kernel
theorem dR_held_40 : decode prog_8_method_14_code 40 = .ok (.ireturn, 1) := by decide +kernel
theorem dR_held_41 : decode prog_8_method_14_code 41 = .ok (.iinc 3 1, 3) := by decide +kernel
theorem dR_held_44 : decode prog_8_method_14_code 44 = .ok (.goto (-42), 3) := by decide +kernel
theorem dR_held_47 : decode prog_8_method_14_code 47 = .ok (.iconst 0, 1) := by decide +kernel
theorem dR_held_48 : decode prog_8_method_14_code 48 = .ok (.ireturn, 1) := by decide +kernel
theorem dR_drop_0 : decode prog_8_method_17_code 0 = .ok (.aload_n 0, 1) := by decide +kernel
theorem dR_drop_1 : decode prog_8_method_17_code 1 = .ok (.iload_n 1, 1) := by decide +kernel
theorem dR_drop_2 : decode prog_8_method_17_code 2 = .ok (.invokevirtual 87, 3) := by decide +kernel
theorem dR_drop_5 : decode prog_8_method_17_code 5 = .ok (.ifCond .eq 12, 3) := by decide +kernel
theorem dR_drop_8 : decode prog_8_method_17_code 8 = .ok (.aload_n 0, 1) := by decide +kernel
theorem dR_drop_9 : decode prog_8_method_17_code 9 = .ok (.getfield 22, 3) := by decide +kernel
theorem dR_drop_12 : decode prog_8_method_17_code 12 = .ok (.iload_n 1, 1) := by decide +kernel
theorem dR_drop_13 : decode prog_8_method_17_code 13 = .ok (.iaload, 1) := by decide +kernel
theorem dR_drop_14 : decode prog_8_method_17_code 14 = .ok (.ifCond .eq 5, 3) := by decide +kernel
theorem dR_drop_17 : decode prog_8_method_17_code 17 = .ok (.iconst 0, 1) := by decide +kernel
theorem dR_drop_18 : decode prog_8_method_17_code 18 = .ok (.ireturn, 1) := by decide +kernel
theorem dR_drop_19 : decode prog_8_method_17_code 19 = .ok (.aload_n 0, 1) := by decide +kernel
theorem dR_drop_20 : decode prog_8_method_17_code 20 = .ok (.getfield 22, 3) := by decide +kernel
theorem dR_drop_23 : decode prog_8_method_17_code 23 = .ok (.iload_n 1, 1) := by decide +kernel
theorem dR_drop_24 : decode prog_8_method_17_code 24 = .ok (.bipush 9, 2) := by decide +kernel
theorem dR_drop_26 : decode prog_8_method_17_code 26 = .ok (.iastore, 1) := by decide +kernel
theorem dR_drop_27 : decode prog_8_method_17_code 27 = .ok (.iconst 1, 1) := by decide +kernel
theorem dR_drop_28 : decode prog_8_method_17_code 28 = .ok (.ireturn, 1) := by decide +kernel
theorem dR_propose_0 : decode prog_8_method_26_code 0 = .ok (.aload_n 0, 1) := by decide +kernel
theorem dR_propose_1 : decode prog_8_method_26_code 1 = .ok (.iload_n 1, 1) := by decide +kernel
theorem dR_propose_2 : decode prog_8_method_26_code 2 = .ok (.invokevirtual 87, 3) := by decide +kernel
theorem dR_propose_5 : decode prog_8_method_26_code 5 = .ok (.ifCond .ne 5, 3) := by decide +kernel
theorem dR_propose_8 : decode prog_8_method_26_code 8 = .ok (.iconst (-1), 1) := by decide +kernel
theorem dR_propose_9 : decode prog_8_method_26_code 9 = .ok (.ireturn, 1) := by decide +kernel
theorem dR_propose_10 : decode prog_8_method_26_code 10 = .ok (.aload_n 0, 1) := by decide +kernel
theorem dR_propose_11 : decode prog_8_method_26_code 11 = .ok (.getfield 22, 3) := by decide +kernel
theorem dR_propose_14 : decode prog_8_method_26_code 14 = .ok (.iload_n 1, 1) := by decide +kernel
theorem dR_propose_15 : decode prog_8_method_26_code 15 = .ok (.iaload, 1) := by decide +kernel
theorem dR_propose_16 : decode prog_8_method_26_code 16 = .ok (.ifCond .eq 6, 3) := by decide +kernel
theorem dR_propose_19 : decode prog_8_method_26_code 19 = .ok (.bipush (-2), 2) := by decide +kernel
theorem dR_propose_21 : decode prog_8_method_26_code 21 = .ok (.ireturn, 1) := by decide +kernel
theorem dR_propose_22 : decode prog_8_method_26_code 22 = .ok (.iload_n 2, 1) := by decide +kernel
theorem dR_propose_23 : decode prog_8_method_26_code 23 = .ok (.ifCond .ne 14, 3) := by decide +kernel
theorem dR_propose_26 : decode prog_8_method_26_code 26 = .ok (.aload_n 0, 1) := by decide +kernel
theorem dR_propose_27 : decode prog_8_method_26_code 27 = .ok (.iload_n 1, 1) := by decide +kernel
theorem dR_propose_28 : decode prog_8_method_26_code 28 = .ok (.invokevirtual 137, 3) := by decide +kernel
theorem dR_propose_31 : decode prog_8_method_26_code 31 = .ok (.ifCond .ne 6, 3) := by decide +kernel
theorem dR_propose_34 : decode prog_8_method_26_code 34 = .ok (.bipush (-8), 2) := by decide +kernel
theorem dR_propose_36 : decode prog_8_method_26_code 36 = .ok (.ireturn, 1) := by decide +kernel
theorem dR_propose_37 : decode prog_8_method_26_code 37 = .ok (.aload_n 0, 1) := by decide +kernel
theorem dR_propose_38 : decode prog_8_method_26_code 38 = .ok (.getfield 7, 3) := by decide +kernel
theorem dR_propose_41 : decode prog_8_method_26_code 41 = .ok (.iload_n 1, 1) := by decide +kernel
theorem dR_propose_42 : decode prog_8_method_26_code 42 = .ok (.iaload, 1) := by decide +kernel
theorem dR_propose_43 : decode prog_8_method_26_code 43 = .ok (.istore_n 3, 1) := by decide +kernel
theorem dR_propose_44 : decode prog_8_method_26_code 44 = .ok (.aload_n 0, 1) := by decide +kernel
theorem dR_propose_45 : decode prog_8_method_26_code 45 = .ok (.getfield 25, 3) := by decide +kernel
theorem dR_propose_48 : decode prog_8_method_26_code 48 = .ok (.iload_n 1, 1) := by decide +kernel
theorem dR_propose_49 : decode prog_8_method_26_code 49 = .ok (.iload_n 2, 1) := by decide +kernel
theorem dR_propose_50 : decode prog_8_method_26_code 50 = .ok (.bastore, 1) := by decide +kernel
theorem dR_propose_51 : decode prog_8_method_26_code 51 = .ok (.aload_n 0, 1) := by decide +kernel
theorem dR_propose_52 : decode prog_8_method_26_code 52 = .ok (.getfield 29, 3) := by decide +kernel
theorem dR_propose_55 : decode prog_8_method_26_code 55 = .ok (.iload_n 1, 1) := by decide +kernel
theorem dR_propose_56 : decode prog_8_method_26_code 56 = .ok (.iconst 1, 1) := by decide +kernel
theorem dR_propose_57 : decode prog_8_method_26_code 57 = .ok (.iload_n 3, 1) := by decide +kernel
theorem dR_propose_58 : decode prog_8_method_26_code 58 = .ok (.ishl, 1) := by decide +kernel
theorem dR_propose_59 : decode prog_8_method_26_code 59 = .ok (.iastore, 1) := by decide +kernel
theorem dR_propose_60 : decode prog_8_method_26_code 60 = .ok (.iload_n 2, 1) := by decide +kernel
theorem dR_propose_61 : decode prog_8_method_26_code 61 = .ok (.ifCond .ne 11, 3) := by decide +kernel
theorem dR_propose_64 : decode prog_8_method_26_code 64 = .ok (.aload_n 0, 1) := by decide +kernel
theorem dR_propose_65 : decode prog_8_method_26_code 65 = .ok (.iload_n 1, 1) := by decide +kernel
theorem dR_propose_66 : decode prog_8_method_26_code 66 = .ok (.invokevirtual 140, 3) := by decide +kernel
theorem dR_propose_69 : decode prog_8_method_26_code 69 = .ok (.ifCond .eq 25, 3) := by decide +kernel
theorem dR_propose_72 : decode prog_8_method_26_code 72 = .ok (.aload_n 0, 1) := by decide +kernel
theorem dR_propose_73 : decode prog_8_method_26_code 73 = .ok (.getfield 22, 3) := by decide +kernel
theorem dR_propose_76 : decode prog_8_method_26_code 76 = .ok (.iload_n 1, 1) := by decide +kernel
theorem dR_propose_77 : decode prog_8_method_26_code 77 = .ok (.iconst 2, 1) := by decide +kernel
theorem dR_propose_78 : decode prog_8_method_26_code 78 = .ok (.iastore, 1) := by decide +kernel
theorem dR_propose_79 : decode prog_8_method_26_code 79 = .ok (.aload_n 0, 1) := by decide +kernel
theorem dR_propose_80 : decode prog_8_method_26_code 80 = .ok (.iconst 2, 1) := by decide +kernel
theorem dR_propose_81 : decode prog_8_method_26_code 81 = .ok (.iload_n 3, 1) := by decide +kernel
theorem dR_propose_82 : decode prog_8_method_26_code 82 = .ok (.aload_n 0, 1) := by decide +kernel
theorem dR_propose_83 : decode prog_8_method_26_code 83 = .ok (.getfield 13, 3) := by decide +kernel
theorem dR_propose_86 : decode prog_8_method_26_code 86 = .ok (.iload_n 1, 1) := by decide +kernel
theorem dR_propose_87 : decode prog_8_method_26_code 87 = .ok (.iaload, 1) := by decide +kernel
theorem dR_propose_88 : decode prog_8_method_26_code 88 = .ok (.iload_n 1, 1) := by decide +kernel
theorem dR_propose_89 : decode prog_8_method_26_code 89 = .ok (.iconst 0, 1) := by decide +kernel
theorem dR_propose_90 : decode prog_8_method_26_code 90 = .ok (.invokevirtual 146, 3) := by decide +kernel
theorem dR_propose_93 : decode prog_8_method_26_code 93 = .ok (.ireturn, 1) := by decide +kernel
theorem dR_propose_94 : decode prog_8_method_26_code 94 = .ok (.aload_n 0, 1) := by decide +kernel
theorem dR_propose_95 : decode prog_8_method_26_code 95 = .ok (.getfield 22, 3) := by decide +kernel
theorem dR_propose_98 : decode prog_8_method_26_code 98 = .ok (.iload_n 1, 1) := by decide +kernel
theorem dR_propose_99 : decode prog_8_method_26_code 99 = .ok (.iconst 1, 1) := by decide +kernel
theorem dR_propose_100 : decode prog_8_method_26_code 100 = .ok (.iastore, 1) := by decide +kernel
theorem dR_propose_101 : decode prog_8_method_26_code 101 = .ok (.iconst 0, 1) := by decide +kernel
theorem dR_propose_102 : decode prog_8_method_26_code 102 = .ok (.istore 4, 2) := by decide +kernel
theorem dR_propose_104 : decode prog_8_method_26_code 104 = .ok (.iconst 0, 1) := by decide +kernel
theorem dR_propose_105 : decode prog_8_method_26_code 105 = .ok (.istore 5, 2) := by decide +kernel
theorem dR_propose_107 : decode prog_8_method_26_code 107 = .ok (.iload 5, 2) := by decide +kernel
theorem dR_propose_109 : decode prog_8_method_26_code 109 = .ok (.iconst 4, 1) := by decide +kernel
theorem dR_propose_110 : decode prog_8_method_26_code 110 = .ok (.if_icmp .ge 40, 3) := by decide +kernel
theorem dR_propose_113 : decode prog_8_method_26_code 113 = .ok (.iload 5, 2) := by decide +kernel
theorem dR_propose_115 : decode prog_8_method_26_code 115 = .ok (.iload_n 3, 1) := by decide +kernel
theorem dR_propose_116 : decode prog_8_method_26_code 116 = .ok (.if_icmp .eq 28, 3) := by decide +kernel
theorem dR_propose_119 : decode prog_8_method_26_code 119 = .ok (.aload_n 0, 1) := by decide +kernel
theorem dR_propose_120 : decode prog_8_method_26_code 120 = .ok (.iload_n 1, 1) := by decide +kernel
theorem dR_propose_121 : decode prog_8_method_26_code 121 = .ok (.iload 5, 2) := by decide +kernel
theorem dR_propose_123 : decode prog_8_method_26_code 123 = .ok (.invokevirtual 130, 3) := by decide +kernel
theorem dR_propose_126 : decode prog_8_method_26_code 126 = .ok (.ifCond .eq 18, 3) := by decide +kernel
theorem dR_propose_129 : decode prog_8_method_26_code 129 = .ok (.iload 4, 2) := by decide +kernel
theorem dR_propose_131 : decode prog_8_method_26_code 131 = .ok (.aload_n 0, 1) := by decide +kernel
theorem dR_propose_132 : decode prog_8_method_26_code 132 = .ok (.iconst 0, 1) := by decide +kernel
theorem dR_propose_133 : decode prog_8_method_26_code 133 = .ok (.iload_n 3, 1) := by decide +kernel
theorem dR_propose_134 : decode prog_8_method_26_code 134 = .ok (.iload 5, 2) := by decide +kernel
theorem dR_propose_136 : decode prog_8_method_26_code 136 = .ok (.iload_n 1, 1) := by decide +kernel
theorem dR_propose_137 : decode prog_8_method_26_code 137 = .ok (.iconst 0, 1) := by decide +kernel
theorem dR_propose_138 : decode prog_8_method_26_code 138 = .ok (.invokevirtual 146, 3) := by decide +kernel
theorem dR_propose_141 : decode prog_8_method_26_code 141 = .ok (.iadd, 1) := by decide +kernel
theorem dR_propose_142 : decode prog_8_method_26_code 142 = .ok (.istore 4, 2) := by decide +kernel
theorem dR_propose_144 : decode prog_8_method_26_code 144 = .ok (.iinc 5 1, 3) := by decide +kernel
theorem dR_propose_147 : decode prog_8_method_26_code 147 = .ok (.goto (-40), 3) := by decide +kernel
theorem dR_propose_150 : decode prog_8_method_26_code 150 = .ok (.iload 4, 2) := by decide +kernel
theorem dR_propose_152 : decode prog_8_method_26_code 152 = .ok (.ireturn, 1) := by decide +kernel
theorem dR_valid_0 : decode prog_8_method_23_code 0 = .ok (.aload_n 0, 1) := by decide +kernel
theorem dR_valid_1 : decode prog_8_method_23_code 1 = .ok (.getfield 35, 3) := by decide +kernel
theorem dR_valid_4 : decode prog_8_method_23_code 4 = .ok (.iload_n 1, 1) := by decide +kernel
theorem dR_valid_5 : decode prog_8_method_23_code 5 = .ok (.iaload, 1) := by decide +kernel
theorem dR_valid_6 : decode prog_8_method_23_code 6 = .ok (.aload_n 0, 1) := by decide +kernel
theorem dR_valid_7 : decode prog_8_method_23_code 7 = .ok (.getfield 38, 3) := by decide +kernel
theorem dR_valid_10 : decode prog_8_method_23_code 10 = .ok (.iload_n 1, 1) := by decide +kernel
theorem dR_valid_11 : decode prog_8_method_23_code 11 = .ok (.iaload, 1) := by decide +kernel
theorem dR_valid_12 : decode prog_8_method_23_code 12 = .ok (.iadd, 1) := by decide +kernel
theorem dR_valid_13 : decode prog_8_method_23_code 13 = .ok (.ifCond .ne 5, 3) := by decide +kernel
theorem dR_valid_16 : decode prog_8_method_23_code 16 = .ok (.iconst 0, 1) := by decide +kernel
theorem dR_valid_17 : decode prog_8_method_23_code 17 = .ok (.ireturn, 1) := by decide +kernel
theorem dR_valid_18 : decode prog_8_method_23_code 18 = .ok (.iconst 0, 1) := by decide +kernel
theorem dR_valid_19 : decode prog_8_method_23_code 19 = .ok (.istore_n 2, 1) := by decide +kernel
theorem dR_valid_20 : decode prog_8_method_23_code 20 = .ok (.iload_n 2, 1) := by decide +kernel
theorem dR_valid_21 : decode prog_8_method_23_code 21 = .ok (.aload_n 0, 1) := by decide +kernel
theorem dR_valid_22 : decode prog_8_method_23_code 22 = .ok (.getfield 35, 3) := by decide +kernel
theorem dR_valid_25 : decode prog_8_method_23_code 25 = .ok (.iload_n 1, 1) := by decide +kernel
theorem dR_valid_26 : decode prog_8_method_23_code 26 = .ok (.iaload, 1) := by decide +kernel
theorem dR_valid_27 : decode prog_8_method_23_code 27 = .ok (.if_icmp .ge 82, 3) := by decide +kernel
theorem dR_valid_30 : decode prog_8_method_23_code 30 = .ok (.aload_n 0, 1) := by decide +kernel
theorem dR_valid_31 : decode prog_8_method_23_code 31 = .ok (.getfield 41, 3) := by decide +kernel
theorem dR_valid_34 : decode prog_8_method_23_code 34 = .ok (.iconst 4, 1) := by decide +kernel
theorem dR_valid_35 : decode prog_8_method_23_code 35 = .ok (.iload_n 1, 1) := by decide +kernel
theorem dR_valid_36 : decode prog_8_method_23_code 36 = .ok (.imul, 1) := by decide +kernel
theorem dR_valid_37 : decode prog_8_method_23_code 37 = .ok (.iload_n 2, 1) := by decide +kernel
theorem dR_valid_38 : decode prog_8_method_23_code 38 = .ok (.iadd, 1) := by decide +kernel
theorem dR_valid_39 : decode prog_8_method_23_code 39 = .ok (.iaload, 1) := by decide +kernel
theorem dR_valid_40 : decode prog_8_method_23_code 40 = .ok (.istore_n 3, 1) := by decide +kernel
theorem dR_valid_41 : decode prog_8_method_23_code 41 = .ok (.iload_n 3, 1) := by decide +kernel
theorem dR_valid_42 : decode prog_8_method_23_code 42 = .ok (.iconst 4, 1) := by decide +kernel
theorem dR_valid_43 : decode prog_8_method_23_code 43 = .ok (.idiv, 1) := by decide +kernel
theorem dR_valid_44 : decode prog_8_method_23_code 44 = .ok (.iconst 4, 1) := by decide +kernel
theorem dR_valid_45 : decode prog_8_method_23_code 45 = .ok (.imul, 1) := by decide +kernel
theorem dR_valid_46 : decode prog_8_method_23_code 46 = .ok (.aload_n 0, 1) := by decide +kernel
theorem dR_valid_47 : decode prog_8_method_23_code 47 = .ok (.getfield 56, 3) := by decide +kernel
theorem dR_valid_50 : decode prog_8_method_23_code 50 = .ok (.iload_n 3, 1) := by decide +kernel
theorem dR_valid_51 : decode prog_8_method_23_code 51 = .ok (.iaload, 1) := by decide +kernel
theorem dR_valid_52 : decode prog_8_method_23_code 52 = .ok (.iadd, 1) := by decide +kernel
theorem dR_valid_53 : decode prog_8_method_23_code 53 = .ok (.istore 4, 2) := by decide +kernel
theorem dR_valid_55 : decode prog_8_method_23_code 55 = .ok (.aload_n 0, 1) := by decide +kernel
theorem dR_valid_56 : decode prog_8_method_23_code 56 = .ok (.getfield 56, 3) := by decide +kernel
theorem dR_valid_59 : decode prog_8_method_23_code 59 = .ok (.iload_n 3, 1) := by decide +kernel
theorem dR_valid_60 : decode prog_8_method_23_code 60 = .ok (.iaload, 1) := by decide +kernel
theorem dR_valid_61 : decode prog_8_method_23_code 61 = .ok (.ifCond .lt 15, 3) := by decide +kernel
theorem dR_valid_64 : decode prog_8_method_23_code 64 = .ok (.aload_n 0, 1) := by decide +kernel
theorem dR_valid_65 : decode prog_8_method_23_code 65 = .ok (.iload_n 1, 1) := by decide +kernel
theorem dR_valid_66 : decode prog_8_method_23_code 66 = .ok (.iload 4, 2) := by decide +kernel
theorem dR_valid_68 : decode prog_8_method_23_code 68 = .ok (.invokevirtual 99, 3) := by decide +kernel
theorem dR_valid_71 : decode prog_8_method_23_code 71 = .ok (.ifCond .ne 5, 3) := by decide +kernel
theorem dR_valid_74 : decode prog_8_method_23_code 74 = .ok (.iconst 0, 1) := by decide +kernel
theorem dR_valid_75 : decode prog_8_method_23_code 75 = .ok (.ireturn, 1) := by decide +kernel
theorem dR_valid_76 : decode prog_8_method_23_code 76 = .ok (.aload_n 0, 1) := by decide +kernel
theorem dR_valid_77 : decode prog_8_method_23_code 77 = .ok (.getfield 44, 3) := by decide +kernel
theorem dR_valid_80 : decode prog_8_method_23_code 80 = .ok (.iload_n 3, 1) := by decide +kernel
theorem dR_valid_81 : decode prog_8_method_23_code 81 = .ok (.iaload, 1) := by decide +kernel
theorem dR_valid_82 : decode prog_8_method_23_code 82 = .ok (.iconst 2, 1) := by decide +kernel
theorem dR_valid_83 : decode prog_8_method_23_code 83 = .ok (.if_icmp .ne 20, 3) := by decide +kernel
theorem dR_valid_86 : decode prog_8_method_23_code 86 = .ok (.aload_n 0, 1) := by decide +kernel
theorem dR_valid_87 : decode prog_8_method_23_code 87 = .ok (.getfield 53, 3) := by decide +kernel
theorem dR_valid_90 : decode prog_8_method_23_code 90 = .ok (.iload_n 3, 1) := by decide +kernel
theorem dR_valid_91 : decode prog_8_method_23_code 91 = .ok (.iaload, 1) := by decide +kernel
theorem dR_valid_92 : decode prog_8_method_23_code 92 = .ok (.aload_n 0, 1) := by decide +kernel
theorem dR_valid_93 : decode prog_8_method_23_code 93 = .ok (.getfield 16, 3) := by decide +kernel
theorem dR_valid_96 : decode prog_8_method_23_code 96 = .ok (.iload_n 1, 1) := by decide +kernel
theorem dR_valid_97 : decode prog_8_method_23_code 97 = .ok (.iaload, 1) := by decide +kernel
theorem dR_valid_98 : decode prog_8_method_23_code 98 = .ok (.if_icmp .le 5, 3) := by decide +kernel
theorem dR_valid_101 : decode prog_8_method_23_code 101 = .ok (.iconst 0, 1) := by decide +kernel
theorem dR_valid_102 : decode prog_8_method_23_code 102 = .ok (.ireturn, 1) := by decide +kernel
theorem dR_valid_103 : decode prog_8_method_23_code 103 = .ok (.iinc 2 1, 3) := by decide +kernel
theorem dR_valid_106 : decode prog_8_method_23_code 106 = .ok (.goto (-86), 3) := by decide +kernel
theorem dR_valid_109 : decode prog_8_method_23_code 109 = .ok (.iconst 1, 1) := by decide +kernel
theorem dR_valid_110 : decode prog_8_method_23_code 110 = .ok (.ireturn, 1) := by decide +kernel
theorem dR_alone_0 : decode prog_8_method_22_code 0 = .ok (.aload_n 0, 1) := by decide +kernel
theorem dR_alone_1 : decode prog_8_method_22_code 1 = .ok (.iload_n 1, 1) := by decide +kernel
theorem dR_alone_2 : decode prog_8_method_22_code 2 = .ok (.invokevirtual 133, 3) := by decide +kernel
theorem dR_alone_5 : decode prog_8_method_22_code 5 = .ok (.iconst 1, 1) := by decide +kernel
theorem dR_alone_6 : decode prog_8_method_22_code 6 = .ok (.aload_n 0, 1) := by decide +kernel
theorem dR_alone_7 : decode prog_8_method_22_code 7 = .ok (.getfield 7, 3) := by decide +kernel
theorem dR_alone_10 : decode prog_8_method_22_code 10 = .ok (.iload_n 1, 1) := by decide +kernel
theorem dR_alone_11 : decode prog_8_method_22_code 11 = .ok (.iaload, 1) := by decide +kernel
theorem dR_alone_12 : decode prog_8_method_22_code 12 = .ok (.ishl, 1) := by decide +kernel
theorem dR_alone_13 : decode prog_8_method_22_code 13 = .ok (.if_icmp .ne 7, 3) := by decide +kernel
theorem dR_alone_16 : decode prog_8_method_22_code 16 = .ok (.iconst 1, 1) := by decide +kernel
theorem dR_alone_17 : decode prog_8_method_22_code 17 = .ok (.goto 4, 3) := by decide +kernel
theorem dR_alone_20 : decode prog_8_method_22_code 20 = .ok (.iconst 0, 1) := by decide +kernel
theorem dR_alone_21 : decode prog_8_method_22_code 21 = .ok (.ireturn, 1) := by decide +kernel
theorem dR_needs_0 : decode prog_8_method_21_code 0 = .ok (.iconst 0, 1) := by decide +kernel
theorem dR_needs_1 : decode prog_8_method_21_code 1 = .ok (.istore_n 2, 1) := by decide +kernel
theorem dR_needs_2 : decode prog_8_method_21_code 2 = .ok (.iconst 3, 1) := by decide +kernel
theorem dR_needs_3 : decode prog_8_method_21_code 3 = .ok (.istore_n 3, 1) := by decide +kernel
theorem dR_needs_4 : decode prog_8_method_21_code 4 = .ok (.iload_n 3, 1) := by decide +kernel
theorem dR_needs_5 : decode prog_8_method_21_code 5 = .ok (.ifCond .lt 28, 3) := by decide +kernel
theorem dR_needs_8 : decode prog_8_method_21_code 8 = .ok (.iconst 2, 1) := by decide +kernel
theorem dR_needs_9 : decode prog_8_method_21_code 9 = .ok (.iload_n 2, 1) := by decide +kernel
theorem dR_needs_10 : decode prog_8_method_21_code 10 = .ok (.imul, 1) := by decide +kernel
theorem dR_needs_11 : decode prog_8_method_21_code 11 = .ok (.aload_n 0, 1) := by decide +kernel
theorem dR_needs_12 : decode prog_8_method_21_code 12 = .ok (.iload_n 1, 1) := by decide +kernel
theorem dR_needs_13 : decode prog_8_method_21_code 13 = .ok (.iload_n 3, 1) := by decide +kernel
theorem dR_needs_14 : decode prog_8_method_21_code 14 = .ok (.invokevirtual 130, 3) := by decide +kernel
theorem dR_needs_17 : decode prog_8_method_21_code 17 = .ok (.ifCond .eq 7, 3) := by decide +kernel
theorem dR_needs_20 : decode prog_8_method_21_code 20 = .ok (.iconst 1, 1) := by decide +kernel
theorem dR_needs_21 : decode prog_8_method_21_code 21 = .ok (.goto 4, 3) := by decide +kernel
theorem dR_needs_24 : decode prog_8_method_21_code 24 = .ok (.iconst 0, 1) := by decide +kernel
theorem dR_needs_25 : decode prog_8_method_21_code 25 = .ok (.iadd, 1) := by decide +kernel
theorem dR_needs_26 : decode prog_8_method_21_code 26 = .ok (.istore_n 2, 1) := by decide +kernel
theorem dR_needs_27 : decode prog_8_method_21_code 27 = .ok (.iinc 3 (-1), 3) := by decide +kernel
theorem dR_needs_30 : decode prog_8_method_21_code 30 = .ok (.goto (-26), 3) := by decide +kernel
theorem dR_needs_33 : decode prog_8_method_21_code 33 = .ok (.iload_n 2, 1) := by decide +kernel
theorem dR_needs_34 : decode prog_8_method_21_code 34 = .ok (.ireturn, 1) := by decide +kernel
theorem dR_mustSign_0 : decode prog_8_method_20_code 0 = .ok (.aload_n 0, 1) := by decide +kernel
theorem dR_mustSign_1 : decode prog_8_method_20_code 1 = .ok (.getfield 7, 3) := by decide +kernel
theorem dR_mustSign_4 : decode prog_8_method_20_code 4 = .ok (.iload_n 1, 1) := by decide +kernel
theorem dR_mustSign_5 : decode prog_8_method_20_code 5 = .ok (.iaload, 1) := by decide +kernel
theorem dR_mustSign_6 : decode prog_8_method_20_code 6 = .ok (.iload_n 2, 1) := by decide +kernel
theorem dR_mustSign_7 : decode prog_8_method_20_code 7 = .ok (.if_icmp .eq 23, 3) := by decide +kernel
theorem dR_mustSign_10 : decode prog_8_method_20_code 10 = .ok (.aload_n 0, 1) := by decide +kernel
theorem dR_mustSign_11 : decode prog_8_method_20_code 11 = .ok (.iload_n 1, 1) := by decide +kernel
theorem dR_mustSign_12 : decode prog_8_method_20_code 12 = .ok (.iconst 0, 1) := by decide +kernel
theorem dR_mustSign_13 : decode prog_8_method_20_code 13 = .ok (.iload_n 2, 1) := by decide +kernel
theorem dR_mustSign_14 : decode prog_8_method_20_code 14 = .ok (.iconst (-1), 1) := by decide +kernel
theorem dR_mustSign_15 : decode prog_8_method_20_code 15 = .ok (.invokevirtual 123, 3) := by decide +kernel
theorem dR_mustSign_18 : decode prog_8_method_20_code 18 = .ok (.ifCond .ne 12, 3) := by decide +kernel
theorem dR_mustSign_21 : decode prog_8_method_20_code 21 = .ok (.aload_n 0, 1) := by decide +kernel
theorem dR_mustSign_22 : decode prog_8_method_20_code 22 = .ok (.iload_n 1, 1) := by decide +kernel
theorem dR_mustSign_23 : decode prog_8_method_20_code 23 = .ok (.iload_n 2, 1) := by decide +kernel
theorem dR_mustSign_24 : decode prog_8_method_20_code 24 = .ok (.invokevirtual 127, 3) := by decide +kernel
theorem dR_mustSign_27 : decode prog_8_method_20_code 27 = .ok (.ifCond .eq 5, 3) := by decide +kernel
theorem dR_mustSign_30 : decode prog_8_method_20_code 30 = .ok (.iconst 1, 1) := by decide +kernel
theorem dR_mustSign_31 : decode prog_8_method_20_code 31 = .ok (.ireturn, 1) := by decide +kernel
theorem dR_mustSign_32 : decode prog_8_method_20_code 32 = .ok (.iconst 0, 1) := by decide +kernel
theorem dR_mustSign_33 : decode prog_8_method_20_code 33 = .ok (.istore_n 3, 1) := by decide +kernel
theorem dR_mustSign_34 : decode prog_8_method_20_code 34 = .ok (.iload_n 3, 1) := by decide +kernel
theorem dR_mustSign_35 : decode prog_8_method_20_code 35 = .ok (.aload_n 0, 1) := by decide +kernel
theorem dR_mustSign_36 : decode prog_8_method_20_code 36 = .ok (.getfield 35, 3) := by decide +kernel
theorem dR_mustSign_39 : decode prog_8_method_20_code 39 = .ok (.iload_n 1, 1) := by decide +kernel
theorem dR_mustSign_40 : decode prog_8_method_20_code 40 = .ok (.iaload, 1) := by decide +kernel
theorem dR_mustSign_41 : decode prog_8_method_20_code 41 = .ok (.if_icmp .ge 44, 3) := by decide +kernel
theorem dR_mustSign_44 : decode prog_8_method_20_code 44 = .ok (.aload_n 0, 1) := by decide +kernel
theorem dR_mustSign_45 : decode prog_8_method_20_code 45 = .ok (.getfield 41, 3) := by decide +kernel
theorem dR_mustSign_48 : decode prog_8_method_20_code 48 = .ok (.iconst 4, 1) := by decide +kernel
theorem dR_mustSign_49 : decode prog_8_method_20_code 49 = .ok (.iload_n 1, 1) := by decide +kernel
theorem dR_mustSign_50 : decode prog_8_method_20_code 50 = .ok (.imul, 1) := by decide +kernel
theorem dR_mustSign_51 : decode prog_8_method_20_code 51 = .ok (.iload_n 3, 1) := by decide +kernel
theorem dR_mustSign_52 : decode prog_8_method_20_code 52 = .ok (.iadd, 1) := by decide +kernel
theorem dR_mustSign_53 : decode prog_8_method_20_code 53 = .ok (.iaload, 1) := by decide +kernel
theorem dR_mustSign_54 : decode prog_8_method_20_code 54 = .ok (.istore 4, 2) := by decide +kernel
theorem dR_mustSign_56 : decode prog_8_method_20_code 56 = .ok (.aload_n 0, 1) := by decide +kernel
theorem dR_mustSign_57 : decode prog_8_method_20_code 57 = .ok (.getfield 44, 3) := by decide +kernel
theorem dR_mustSign_60 : decode prog_8_method_20_code 60 = .ok (.iload 4, 2) := by decide +kernel
theorem dR_mustSign_62 : decode prog_8_method_20_code 62 = .ok (.iaload, 1) := by decide +kernel
theorem dR_mustSign_63 : decode prog_8_method_20_code 63 = .ok (.ifCond .ne 16, 3) := by decide +kernel
theorem dR_mustSign_66 : decode prog_8_method_20_code 66 = .ok (.aload_n 0, 1) := by decide +kernel
theorem dR_mustSign_67 : decode prog_8_method_20_code 67 = .ok (.getfield 50, 3) := by decide +kernel
theorem dR_mustSign_70 : decode prog_8_method_20_code 70 = .ok (.iload 4, 2) := by decide +kernel
theorem dR_mustSign_72 : decode prog_8_method_20_code 72 = .ok (.iaload, 1) := by decide +kernel
theorem dR_mustSign_73 : decode prog_8_method_20_code 73 = .ok (.iload_n 2, 1) := by decide +kernel
theorem dR_mustSign_74 : decode prog_8_method_20_code 74 = .ok (.if_icmp .ne 5, 3) := by decide +kernel
theorem dR_mustSign_77 : decode prog_8_method_20_code 77 = .ok (.iconst 1, 1) := by decide +kernel
theorem dR_mustSign_78 : decode prog_8_method_20_code 78 = .ok (.ireturn, 1) := by decide +kernel
theorem dR_mustSign_79 : decode prog_8_method_20_code 79 = .ok (.iinc 3 1, 3) := by decide +kernel
theorem dR_mustSign_82 : decode prog_8_method_20_code 82 = .ok (.goto (-48), 3) := by decide +kernel
theorem dR_mustSign_85 : decode prog_8_method_20_code 85 = .ok (.iconst 0, 1) := by decide +kernel
theorem dR_mustSign_86 : decode prog_8_method_20_code 86 = .ok (.istore_n 3, 1) := by decide +kernel
theorem dR_mustSign_87 : decode prog_8_method_20_code 87 = .ok (.iload_n 3, 1) := by decide +kernel
theorem dR_mustSign_88 : decode prog_8_method_20_code 88 = .ok (.iconst 4, 1) := by decide +kernel
theorem dR_mustSign_89 : decode prog_8_method_20_code 89 = .ok (.if_icmp .ge 22, 3) := by decide +kernel
theorem dR_mustSign_92 : decode prog_8_method_20_code 92 = .ok (.aload_n 0, 1) := by decide +kernel
theorem dR_mustSign_93 : decode prog_8_method_20_code 93 = .ok (.iload_n 1, 1) := by decide +kernel
theorem dR_mustSign_94 : decode prog_8_method_20_code 94 = .ok (.iconst 1, 1) := by decide +kernel
theorem dR_mustSign_95 : decode prog_8_method_20_code 95 = .ok (.iload_n 2, 1) := by decide +kernel
theorem dR_mustSign_96 : decode prog_8_method_20_code 96 = .ok (.iload_n 3, 1) := by decide +kernel
theorem dR_mustSign_97 : decode prog_8_method_20_code 97 = .ok (.invokevirtual 123, 3) := by decide +kernel
theorem dR_mustSign_100 : decode prog_8_method_20_code 100 = .ok (.ifCond .le 5, 3) := by decide +kernel
theorem dR_mustSign_103 : decode prog_8_method_20_code 103 = .ok (.iconst 1, 1) := by decide +kernel
theorem dR_mustSign_104 : decode prog_8_method_20_code 104 = .ok (.ireturn, 1) := by decide +kernel
theorem dR_mustSign_105 : decode prog_8_method_20_code 105 = .ok (.iinc 3 1, 3) := by decide +kernel
theorem dR_mustSign_108 : decode prog_8_method_20_code 108 = .ok (.goto (-21), 3) := by decide +kernel
theorem dR_mustSign_111 : decode prog_8_method_20_code 111 = .ok (.iconst 0, 1) := by decide +kernel
theorem dR_mustSign_112 : decode prog_8_method_20_code 112 = .ok (.ireturn, 1) := by decide +kernel
theorem dR_gain_0 : decode prog_8_method_18_code 0 = .ok (.iconst 0, 1) := by decide +kernel
theorem dR_gain_1 : decode prog_8_method_18_code 1 = .ok (.istore 5, 2) := by decide +kernel
theorem dR_gain_3 : decode prog_8_method_18_code 3 = .ok (.iconst 0, 1) := by decide +kernel
theorem dR_gain_4 : decode prog_8_method_18_code 4 = .ok (.istore 6, 2) := by decide +kernel
theorem dR_gain_6 : decode prog_8_method_18_code 6 = .ok (.iload 6, 2) := by decide +kernel
theorem dR_gain_8 : decode prog_8_method_18_code 8 = .ok (.bipush 8, 2) := by decide +kernel
theorem dR_gain_10 : decode prog_8_method_18_code 10 = .ok (.if_icmp .ge 194, 3) := by decide +kernel
theorem dR_gain_13 : decode prog_8_method_18_code 13 = .ok (.iload 6, 2) := by decide +kernel
theorem dR_gain_15 : decode prog_8_method_18_code 15 = .ok (.iconst 4, 1) := by decide +kernel
theorem dR_gain_16 : decode prog_8_method_18_code 16 = .ok (.if_icmp .ge 7, 3) := by decide +kernel
theorem dR_gain_19 : decode prog_8_method_18_code 19 = .ok (.iconst 1, 1) := by decide +kernel
theorem dR_gain_20 : decode prog_8_method_18_code 20 = .ok (.goto 4, 3) := by decide +kernel
theorem dR_gain_23 : decode prog_8_method_18_code 23 = .ok (.iconst 0, 1) := by decide +kernel
theorem dR_gain_24 : decode prog_8_method_18_code 24 = .ok (.istore 7, 2) := by decide +kernel
theorem dR_gain_26 : decode prog_8_method_18_code 26 = .ok (.iload 7, 2) := by decide +kernel
theorem dR_gain_28 : decode prog_8_method_18_code 28 = .ok (.ifCond .eq 22, 3) := by decide +kernel
theorem dR_gain_31 : decode prog_8_method_18_code 31 = .ok (.iload 6, 2) := by decide +kernel
theorem dR_gain_33 : decode prog_8_method_18_code 33 = .ok (.aload_n 0, 1) := by decide +kernel
theorem dR_gain_34 : decode prog_8_method_18_code 34 = .ok (.getfield 38, 3) := by decide +kernel
theorem dR_gain_37 : decode prog_8_method_18_code 37 = .ok (.iload_n 1, 1) := by decide +kernel
theorem dR_gain_38 : decode prog_8_method_18_code 38 = .ok (.iaload, 1) := by decide +kernel
theorem dR_gain_39 : decode prog_8_method_18_code 39 = .ok (.if_icmp .ge 7, 3) := by decide +kernel
theorem dR_gain_42 : decode prog_8_method_18_code 42 = .ok (.iconst 1, 1) := by decide +kernel
theorem dR_gain_43 : decode prog_8_method_18_code 43 = .ok (.goto 25, 3) := by decide +kernel
theorem dR_gain_46 : decode prog_8_method_18_code 46 = .ok (.iconst 0, 1) := by decide +kernel
theorem dR_gain_47 : decode prog_8_method_18_code 47 = .ok (.goto 21, 3) := by decide +kernel
theorem dR_gain_50 : decode prog_8_method_18_code 50 = .ok (.iload 6, 2) := by decide +kernel
theorem dR_gain_52 : decode prog_8_method_18_code 52 = .ok (.iconst 4, 1) := by decide +kernel
theorem dR_gain_53 : decode prog_8_method_18_code 53 = .ok (.isub, 1) := by decide +kernel
theorem dR_gain_54 : decode prog_8_method_18_code 54 = .ok (.aload_n 0, 1) := by decide +kernel
theorem dR_gain_55 : decode prog_8_method_18_code 55 = .ok (.getfield 35, 3) := by decide +kernel
theorem dR_gain_58 : decode prog_8_method_18_code 58 = .ok (.iload_n 1, 1) := by decide +kernel
theorem dR_gain_59 : decode prog_8_method_18_code 59 = .ok (.iaload, 1) := by decide +kernel
theorem dR_gain_60 : decode prog_8_method_18_code 60 = .ok (.if_icmp .ge 7, 3) := by decide +kernel
theorem dR_gain_63 : decode prog_8_method_18_code 63 = .ok (.iconst 1, 1) := by decide +kernel
theorem dR_gain_64 : decode prog_8_method_18_code 64 = .ok (.goto 4, 3) := by decide +kernel
theorem dR_gain_67 : decode prog_8_method_18_code 67 = .ok (.iconst 0, 1) := by decide +kernel
theorem dR_gain_68 : decode prog_8_method_18_code 68 = .ok (.istore 8, 2) := by decide +kernel
theorem dR_gain_70 : decode prog_8_method_18_code 70 = .ok (.iload 8, 2) := by decide +kernel
theorem dR_gain_72 : decode prog_8_method_18_code 72 = .ok (.ifCond .ne 7, 3) := by decide +kernel
theorem dR_gain_75 : decode prog_8_method_18_code 75 = .ok (.iconst 0, 1) := by decide +kernel
theorem dR_gain_76 : decode prog_8_method_18_code 76 = .ok (.goto 30, 3) := by decide +kernel
theorem dR_gain_79 : decode prog_8_method_18_code 79 = .ok (.iload 7, 2) := by decide +kernel
theorem dR_gain_81 : decode prog_8_method_18_code 81 = .ok (.ifCond .eq 12, 3) := by decide +kernel
theorem dR_gain_84 : decode prog_8_method_18_code 84 = .ok (.iconst 4, 1) := by decide +kernel
theorem dR_gain_85 : decode prog_8_method_18_code 85 = .ok (.iload_n 1, 1) := by decide +kernel
theorem dR_gain_86 : decode prog_8_method_18_code 86 = .ok (.imul, 1) := by decide +kernel
theorem dR_gain_87 : decode prog_8_method_18_code 87 = .ok (.iload 6, 2) := by decide +kernel
theorem dR_gain_89 : decode prog_8_method_18_code 89 = .ok (.iadd, 1) := by decide +kernel
theorem dR_gain_90 : decode prog_8_method_18_code 90 = .ok (.goto 16, 3) := by decide +kernel
theorem dR_gain_93 : decode prog_8_method_18_code 93 = .ok (.aload_n 0, 1) := by decide +kernel
theorem dR_gain_94 : decode prog_8_method_18_code 94 = .ok (.getfield 41, 3) := by decide +kernel
theorem dR_gain_97 : decode prog_8_method_18_code 97 = .ok (.iconst 4, 1) := by decide +kernel
theorem dR_gain_98 : decode prog_8_method_18_code 98 = .ok (.iload_n 1, 1) := by decide +kernel
theorem dR_gain_99 : decode prog_8_method_18_code 99 = .ok (.imul, 1) := by decide +kernel
theorem dR_gain_100 : decode prog_8_method_18_code 100 = .ok (.iload 6, 2) := by decide +kernel
theorem dR_gain_102 : decode prog_8_method_18_code 102 = .ok (.iadd, 1) := by decide +kernel
theorem dR_gain_103 : decode prog_8_method_18_code 103 = .ok (.iconst 4, 1) := by decide +kernel
theorem dR_gain_104 : decode prog_8_method_18_code 104 = .ok (.isub, 1) := by decide +kernel
theorem dR_gain_105 : decode prog_8_method_18_code 105 = .ok (.iaload, 1) := by decide +kernel
theorem dR_gain_106 : decode prog_8_method_18_code 106 = .ok (.istore 9, 2) := by decide +kernel
theorem dR_gain_108 : decode prog_8_method_18_code 108 = .ok (.iload 8, 2) := by decide +kernel
theorem dR_gain_110 : decode prog_8_method_18_code 110 = .ok (.ifCond .eq 52, 3) := by decide +kernel
theorem dR_gain_113 : decode prog_8_method_18_code 113 = .ok (.aload_n 0, 1) := by decide +kernel
theorem dR_gain_114 : decode prog_8_method_18_code 114 = .ok (.getfield 44, 3) := by decide +kernel
theorem dR_gain_117 : decode prog_8_method_18_code 117 = .ok (.iload 9, 2) := by decide +kernel
theorem dR_gain_119 : decode prog_8_method_18_code 119 = .ok (.iaload, 1) := by decide +kernel
theorem dR_gain_120 : decode prog_8_method_18_code 120 = .ok (.iload_n 2, 1) := by decide +kernel
theorem dR_gain_121 : decode prog_8_method_18_code 121 = .ok (.if_icmp .ne 41, 3) := by decide +kernel
theorem dR_gain_124 : decode prog_8_method_18_code 124 = .ok (.iload_n 3, 1) := by decide +kernel
theorem dR_gain_125 : decode prog_8_method_18_code 125 = .ok (.iconst (-1), 1) := by decide +kernel
theorem dR_gain_126 : decode prog_8_method_18_code 126 = .ok (.if_icmp .eq 14, 3) := by decide +kernel
theorem dR_gain_129 : decode prog_8_method_18_code 129 = .ok (.aload_n 0, 1) := by decide +kernel
theorem dR_gain_130 : decode prog_8_method_18_code 130 = .ok (.getfield 47, 3) := by decide +kernel
theorem dR_gain_133 : decode prog_8_method_18_code 133 = .ok (.iload 9, 2) := by decide +kernel
theorem dR_gain_135 : decode prog_8_method_18_code 135 = .ok (.iaload, 1) := by decide +kernel
theorem dR_gain_136 : decode prog_8_method_18_code 136 = .ok (.iload_n 3, 1) := by decide +kernel
theorem dR_gain_137 : decode prog_8_method_18_code 137 = .ok (.if_icmp .ne 25, 3) := by decide +kernel
theorem dR_gain_140 : decode prog_8_method_18_code 140 = .ok (.iload 4, 2) := by decide +kernel
theorem dR_gain_142 : decode prog_8_method_18_code 142 = .ok (.iconst (-1), 1) := by decide +kernel
theorem dR_gain_143 : decode prog_8_method_18_code 143 = .ok (.if_icmp .eq 15, 3) := by decide +kernel
theorem dR_gain_146 : decode prog_8_method_18_code 146 = .ok (.aload_n 0, 1) := by decide +kernel
theorem dR_gain_147 : decode prog_8_method_18_code 147 = .ok (.getfield 50, 3) := by decide +kernel
theorem dR_gain_150 : decode prog_8_method_18_code 150 = .ok (.iload 9, 2) := by decide +kernel
theorem dR_gain_152 : decode prog_8_method_18_code 152 = .ok (.iaload, 1) := by decide +kernel
theorem dR_gain_153 : decode prog_8_method_18_code 153 = .ok (.iload 4, 2) := by decide +kernel
theorem dR_gain_155 : decode prog_8_method_18_code 155 = .ok (.if_icmp .ne 7, 3) := by decide +kernel
theorem dR_gain_158 : decode prog_8_method_18_code 158 = .ok (.iconst 1, 1) := by decide +kernel
theorem dR_gain_159 : decode prog_8_method_18_code 159 = .ok (.goto 4, 3) := by decide +kernel
theorem dR_gain_162 : decode prog_8_method_18_code 162 = .ok (.iconst 0, 1) := by decide +kernel
theorem dR_gain_163 : decode prog_8_method_18_code 163 = .ok (.istore 10, 2) := by decide +kernel
theorem dR_gain_165 : decode prog_8_method_18_code 165 = .ok (.iload 10, 2) := by decide +kernel
theorem dR_gain_167 : decode prog_8_method_18_code 167 = .ok (.ifCond .eq 31, 3) := by decide +kernel
theorem dR_gain_170 : decode prog_8_method_18_code 170 = .ok (.iload 5, 2) := by decide +kernel
theorem dR_gain_172 : decode prog_8_method_18_code 172 = .ok (.iload 7, 2) := by decide +kernel
theorem dR_gain_174 : decode prog_8_method_18_code 174 = .ok (.ifCond .eq 13, 3) := by decide +kernel
theorem dR_gain_177 : decode prog_8_method_18_code 177 = .ok (.aload_n 0, 1) := by decide +kernel
theorem dR_gain_178 : decode prog_8_method_18_code 178 = .ok (.getfield 53, 3) := by decide +kernel
theorem dR_gain_181 : decode prog_8_method_18_code 181 = .ok (.iload 9, 2) := by decide +kernel
theorem dR_gain_183 : decode prog_8_method_18_code 183 = .ok (.iaload, 1) := by decide +kernel
theorem dR_gain_184 : decode prog_8_method_18_code 184 = .ok (.goto 11, 3) := by decide +kernel
theorem dR_gain_187 : decode prog_8_method_18_code 187 = .ok (.aload_n 0, 1) := by decide +kernel
theorem dR_gain_188 : decode prog_8_method_18_code 188 = .ok (.getfield 53, 3) := by decide +kernel
theorem dR_gain_191 : decode prog_8_method_18_code 191 = .ok (.iload 9, 2) := by decide +kernel
theorem dR_gain_193 : decode prog_8_method_18_code 193 = .ok (.iaload, 1) := by decide +kernel
theorem dR_gain_194 : decode prog_8_method_18_code 194 = .ok (.ineg, 1) := by decide +kernel
theorem dR_gain_195 : decode prog_8_method_18_code 195 = .ok (.iadd, 1) := by decide +kernel
theorem dR_gain_196 : decode prog_8_method_18_code 196 = .ok (.istore 5, 2) := by decide +kernel
theorem dR_gain_198 : decode prog_8_method_18_code 198 = .ok (.iinc 6 1, 3) := by decide +kernel
theorem dR_gain_201 : decode prog_8_method_18_code 201 = .ok (.goto (-195), 3) := by decide +kernel
theorem dR_gain_204 : decode prog_8_method_18_code 204 = .ok (.iload 5, 2) := by decide +kernel
theorem dR_gain_206 : decode prog_8_method_18_code 206 = .ok (.ireturn, 1) := by decide +kernel
theorem dR_letDown_0 : decode prog_8_method_19_code 0 = .ok (.iconst 0, 1) := by decide +kernel
theorem dR_letDown_1 : decode prog_8_method_19_code 1 = .ok (.istore_n 3, 1) := by decide +kernel
theorem dR_letDown_2 : decode prog_8_method_19_code 2 = .ok (.iconst 0, 1) := by decide +kernel
theorem dR_letDown_3 : decode prog_8_method_19_code 3 = .ok (.istore 4, 2) := by decide +kernel
theorem dR_letDown_5 : decode prog_8_method_19_code 5 = .ok (.iload 4, 2) := by decide +kernel
theorem dR_letDown_7 : decode prog_8_method_19_code 7 = .ok (.iconst 4, 1) := by decide +kernel
theorem dR_letDown_8 : decode prog_8_method_19_code 8 = .ok (.if_icmp .ge 30, 3) := by decide +kernel
theorem dR_letDown_11 : decode prog_8_method_19_code 11 = .ok (.aload_n 0, 1) := by decide +kernel
theorem dR_letDown_12 : decode prog_8_method_19_code 12 = .ok (.iload_n 1, 1) := by decide +kernel
theorem dR_letDown_13 : decode prog_8_method_19_code 13 = .ok (.iconst 1, 1) := by decide +kernel
theorem dR_letDown_14 : decode prog_8_method_19_code 14 = .ok (.iload 4, 2) := by decide +kernel
theorem dR_letDown_16 : decode prog_8_method_19_code 16 = .ok (.iload_n 2, 1) := by decide +kernel
theorem dR_letDown_17 : decode prog_8_method_19_code 17 = .ok (.invokevirtual 123, 3) := by decide +kernel
theorem dR_letDown_20 : decode prog_8_method_19_code 20 = .ok (.istore 5, 2) := by decide +kernel
theorem dR_letDown_22 : decode prog_8_method_19_code 22 = .ok (.iload 5, 2) := by decide +kernel
theorem dR_letDown_24 : decode prog_8_method_19_code 24 = .ok (.ifCond .ge 8, 3) := by decide +kernel
theorem dR_letDown_27 : decode prog_8_method_19_code 27 = .ok (.iload_n 3, 1) := by decide +kernel
theorem dR_letDown_28 : decode prog_8_method_19_code 28 = .ok (.iload 5, 2) := by decide +kernel
theorem dR_letDown_30 : decode prog_8_method_19_code 30 = .ok (.isub, 1) := by decide +kernel
theorem dR_letDown_31 : decode prog_8_method_19_code 31 = .ok (.istore_n 3, 1) := by decide +kernel
theorem dR_letDown_32 : decode prog_8_method_19_code 32 = .ok (.iinc 4 1, 3) := by decide +kernel
theorem dR_letDown_35 : decode prog_8_method_19_code 35 = .ok (.goto (-30), 3) := by decide +kernel
theorem dR_letDown_38 : decode prog_8_method_19_code 38 = .ok (.iload_n 3, 1) := by decide +kernel
theorem dR_letDown_39 : decode prog_8_method_19_code 39 = .ok (.ifCond .le 19, 3) := by decide +kernel
theorem dR_letDown_42 : decode prog_8_method_19_code 42 = .ok (.iload_n 3, 1) := by decide +kernel
theorem dR_letDown_43 : decode prog_8_method_19_code 43 = .ok (.aload_n 0, 1) := by decide +kernel
theorem dR_letDown_44 : decode prog_8_method_19_code 44 = .ok (.iload_n 1, 1) := by decide +kernel
theorem dR_letDown_45 : decode prog_8_method_19_code 45 = .ok (.iconst 0, 1) := by decide +kernel
theorem dR_letDown_46 : decode prog_8_method_19_code 46 = .ok (.iconst (-1), 1) := by decide +kernel
theorem dR_letDown_47 : decode prog_8_method_19_code 47 = .ok (.iload_n 2, 1) := by decide +kernel
theorem dR_letDown_48 : decode prog_8_method_19_code 48 = .ok (.invokevirtual 123, 3) := by decide +kernel
theorem dR_letDown_51 : decode prog_8_method_19_code 51 = .ok (.if_icmp .le 7, 3) := by decide +kernel
theorem dR_letDown_54 : decode prog_8_method_19_code 54 = .ok (.iconst 1, 1) := by decide +kernel
theorem dR_letDown_55 : decode prog_8_method_19_code 55 = .ok (.goto 4, 3) := by decide +kernel
theorem dR_letDown_58 : decode prog_8_method_19_code 58 = .ok (.iconst 0, 1) := by decide +kernel
theorem dR_letDown_59 : decode prog_8_method_19_code 59 = .ok (.ireturn, 1) := by decide +kernel
theorem dR_send_0 : decode prog_8_method_25_code 0 = .ok (.iload_n 1, 1) := by decide +kernel
theorem dR_send_1 : decode prog_8_method_25_code 1 = .ok (.bipush 8, 2) := by decide +kernel
theorem dR_send_3 : decode prog_8_method_25_code 3 = .ok (.iload_n 2, 1) := by decide +kernel
theorem dR_send_4 : decode prog_8_method_25_code 4 = .ok (.imul, 1) := by decide +kernel
theorem dR_send_5 : decode prog_8_method_25_code 5 = .ok (.iadd, 1) := by decide +kernel
theorem dR_send_6 : decode prog_8_method_25_code 6 = .ok (.bipush 64, 2) := by decide +kernel
theorem dR_send_8 : decode prog_8_method_25_code 8 = .ok (.iload_n 3, 1) := by decide +kernel
theorem dR_send_9 : decode prog_8_method_25_code 9 = .ok (.imul, 1) := by decide +kernel
theorem dR_send_10 : decode prog_8_method_25_code 10 = .ok (.iadd, 1) := by decide +kernel
theorem dR_send_11 : decode prog_8_method_25_code 11 = .ok (.sipush 512, 3) := by decide +kernel
theorem dR_send_14 : decode prog_8_method_25_code 14 = .ok (.iload 4, 2) := by decide +kernel
theorem dR_send_16 : decode prog_8_method_25_code 16 = .ok (.imul, 1) := by decide +kernel
theorem dR_send_17 : decode prog_8_method_25_code 17 = .ok (.iadd, 1) := by decide +kernel
theorem dR_send_18 : decode prog_8_method_25_code 18 = .ok (.sipush 16384, 3) := by decide +kernel
theorem dR_send_21 : decode prog_8_method_25_code 21 = .ok (.iload 5, 2) := by decide +kernel
theorem dR_send_23 : decode prog_8_method_25_code 23 = .ok (.imul, 1) := by decide +kernel
theorem dR_send_24 : decode prog_8_method_25_code 24 = .ok (.iadd, 1) := by decide +kernel
theorem dR_send_25 : decode prog_8_method_25_code 25 = .ok (.istore 6, 2) := by decide +kernel
theorem dR_send_27 : decode prog_8_method_25_code 27 = .ok (.iconst 0, 1) := by decide +kernel
theorem dR_send_28 : decode prog_8_method_25_code 28 = .ok (.istore 7, 2) := by decide +kernel
theorem dR_send_30 : decode prog_8_method_25_code 30 = .ok (.iload 7, 2) := by decide +kernel
theorem dR_send_32 : decode prog_8_method_25_code 32 = .ok (.aload_n 0, 1) := by decide +kernel
theorem dR_send_33 : decode prog_8_method_25_code 33 = .ok (.getfield 143, 3) := by decide +kernel
theorem dR_send_36 : decode prog_8_method_25_code 36 = .ok (.if_icmp .ge 23, 3) := by decide +kernel
theorem dR_send_39 : decode prog_8_method_25_code 39 = .ok (.aload_n 0, 1) := by decide +kernel
theorem dR_send_40 : decode prog_8_method_25_code 40 = .ok (.getfield 74, 3) := by decide +kernel
theorem dR_send_43 : decode prog_8_method_25_code 43 = .ok (.iload 7, 2) := by decide +kernel
theorem dR_send_45 : decode prog_8_method_25_code 45 = .ok (.iaload, 1) := by decide +kernel
theorem dR_send_46 : decode prog_8_method_25_code 46 = .ok (.iload 6, 2) := by decide +kernel
theorem dR_send_48 : decode prog_8_method_25_code 48 = .ok (.if_icmp .ne 5, 3) := by decide +kernel
theorem dR_send_51 : decode prog_8_method_25_code 51 = .ok (.iconst 0, 1) := by decide +kernel
theorem dR_send_52 : decode prog_8_method_25_code 52 = .ok (.ireturn, 1) := by decide +kernel
theorem dR_send_53 : decode prog_8_method_25_code 53 = .ok (.iinc 7 1, 3) := by decide +kernel
theorem dR_send_56 : decode prog_8_method_25_code 56 = .ok (.goto (-26), 3) := by decide +kernel
theorem dR_send_59 : decode prog_8_method_25_code 59 = .ok (.aload_n 0, 1) := by decide +kernel
theorem dR_send_60 : decode prog_8_method_25_code 60 = .ok (.getfield 74, 3) := by decide +kernel
theorem dR_send_63 : decode prog_8_method_25_code 63 = .ok (.aload_n 0, 1) := by decide +kernel
theorem dR_send_64 : decode prog_8_method_25_code 64 = .ok (.getfield 143, 3) := by decide +kernel
theorem dR_send_67 : decode prog_8_method_25_code 67 = .ok (.iload 6, 2) := by decide +kernel
theorem dR_send_69 : decode prog_8_method_25_code 69 = .ok (.iastore, 1) := by decide +kernel
theorem dR_send_70 : decode prog_8_method_25_code 70 = .ok (.aload_n 0, 1) := by decide +kernel
theorem dR_send_71 : decode prog_8_method_25_code 71 = .ok (.dup, 1) := by decide +kernel
theorem dR_send_72 : decode prog_8_method_25_code 72 = .ok (.getfield 143, 3) := by decide +kernel
theorem dR_send_75 : decode prog_8_method_25_code 75 = .ok (.iconst 1, 1) := by decide +kernel
theorem dR_send_76 : decode prog_8_method_25_code 76 = .ok (.iadd, 1) := by decide +kernel
theorem dR_send_77 : decode prog_8_method_25_code 77 = .ok (.putfield 143, 3) := by decide +kernel
theorem dR_send_80 : decode prog_8_method_25_code 80 = .ok (.iconst 1, 1) := by decide +kernel
theorem dR_send_81 : decode prog_8_method_25_code 81 = .ok (.ireturn, 1) := by decide +kernel
theorem dR_deliver_0 : decode prog_8_method_28_code 0 = .ok (.iload_n 1, 1) := by decide +kernel
theorem dR_deliver_1 : decode prog_8_method_28_code 1 = .ok (.ifCond .lt 11, 3) := by decide +kernel
theorem dR_deliver_4 : decode prog_8_method_28_code 4 = .ok (.iload_n 1, 1) := by decide +kernel
theorem dR_deliver_5 : decode prog_8_method_28_code 5 = .ok (.aload_n 0, 1) := by decide +kernel
theorem dR_deliver_6 : decode prog_8_method_28_code 6 = .ok (.getfield 143, 3) := by decide +kernel
theorem dR_deliver_9 : decode prog_8_method_28_code 9 = .ok (.if_icmp .lt 5, 3) := by decide +kernel
theorem dR_deliver_12 : decode prog_8_method_28_code 12 = .ok (.iconst (-1), 1) := by decide +kernel
theorem dR_deliver_13 : decode prog_8_method_28_code 13 = .ok (.ireturn, 1) := by decide +kernel
theorem dR_deliver_14 : decode prog_8_method_28_code 14 = .ok (.aload_n 0, 1) := by decide +kernel
theorem dR_deliver_15 : decode prog_8_method_28_code 15 = .ok (.getfield 74, 3) := by decide +kernel
theorem dR_deliver_18 : decode prog_8_method_28_code 18 = .ok (.iload_n 1, 1) := by decide +kernel
theorem dR_deliver_19 : decode prog_8_method_28_code 19 = .ok (.iaload, 1) := by decide +kernel
theorem dR_deliver_20 : decode prog_8_method_28_code 20 = .ok (.istore_n 3, 1) := by decide +kernel
theorem dR_deliver_21 : decode prog_8_method_28_code 21 = .ok (.iload_n 3, 1) := by decide +kernel
theorem dR_deliver_22 : decode prog_8_method_28_code 22 = .ok (.bipush 7, 2) := by decide +kernel
theorem dR_deliver_24 : decode prog_8_method_28_code 24 = .ok (.iand, 1) := by decide +kernel
theorem dR_deliver_25 : decode prog_8_method_28_code 25 = .ok (.istore 4, 2) := by decide +kernel
theorem dR_deliver_27 : decode prog_8_method_28_code 27 = .ok (.iload_n 3, 1) := by decide +kernel
theorem dR_deliver_28 : decode prog_8_method_28_code 28 = .ok (.iconst 3, 1) := by decide +kernel
theorem dR_deliver_29 : decode prog_8_method_28_code 29 = .ok (.ishr, 1) := by decide +kernel
theorem dR_deliver_30 : decode prog_8_method_28_code 30 = .ok (.bipush 7, 2) := by decide +kernel
theorem dR_deliver_32 : decode prog_8_method_28_code 32 = .ok (.iand, 1) := by decide +kernel
theorem dR_deliver_33 : decode prog_8_method_28_code 33 = .ok (.istore 5, 2) := by decide +kernel
theorem dR_deliver_35 : decode prog_8_method_28_code 35 = .ok (.iload_n 3, 1) := by decide +kernel
theorem dR_deliver_36 : decode prog_8_method_28_code 36 = .ok (.bipush 6, 2) := by decide +kernel
theorem dR_deliver_38 : decode prog_8_method_28_code 38 = .ok (.ishr, 1) := by decide +kernel
theorem dR_deliver_39 : decode prog_8_method_28_code 39 = .ok (.bipush 7, 2) := by decide +kernel
theorem dR_deliver_41 : decode prog_8_method_28_code 41 = .ok (.iand, 1) := by decide +kernel
theorem dR_deliver_42 : decode prog_8_method_28_code 42 = .ok (.istore 6, 2) := by decide +kernel
theorem dR_deliver_44 : decode prog_8_method_28_code 44 = .ok (.iload_n 3, 1) := by decide +kernel
theorem dR_deliver_45 : decode prog_8_method_28_code 45 = .ok (.bipush 9, 2) := by decide +kernel
theorem dR_deliver_47 : decode prog_8_method_28_code 47 = .ok (.ishr, 1) := by decide +kernel
theorem dR_deliver_48 : decode prog_8_method_28_code 48 = .ok (.bipush 31, 2) := by decide +kernel
theorem dR_deliver_50 : decode prog_8_method_28_code 50 = .ok (.iand, 1) := by decide +kernel
theorem dR_deliver_51 : decode prog_8_method_28_code 51 = .ok (.istore 7, 2) := by decide +kernel
theorem dR_deliver_53 : decode prog_8_method_28_code 53 = .ok (.iload_n 3, 1) := by decide +kernel
theorem dR_deliver_54 : decode prog_8_method_28_code 54 = .ok (.bipush 14, 2) := by decide +kernel
theorem dR_deliver_56 : decode prog_8_method_28_code 56 = .ok (.ishr, 1) := by decide +kernel
theorem dR_deliver_57 : decode prog_8_method_28_code 57 = .ok (.istore 8, 2) := by decide +kernel
theorem dR_deliver_59 : decode prog_8_method_28_code 59 = .ok (.iconst 2, 1) := by decide +kernel
theorem dR_deliver_60 : decode prog_8_method_28_code 60 = .ok (.istore 9, 2) := by decide +kernel
theorem dR_deliver_62 : decode prog_8_method_28_code 62 = .ok (.iload 4, 2) := by decide +kernel
theorem dR_deliver_64 : decode prog_8_method_28_code 64 = .ok (.ifCond .ne 15, 3) := by decide +kernel
theorem dR_deliver_67 : decode prog_8_method_28_code 67 = .ok (.aload_n 0, 1) := by decide +kernel
theorem dR_deliver_68 : decode prog_8_method_28_code 68 = .ok (.iload 6, 2) := by decide +kernel
theorem dR_deliver_70 : decode prog_8_method_28_code 70 = .ok (.iload 7, 2) := by decide +kernel
theorem dR_deliver_72 : decode prog_8_method_28_code 72 = .ok (.iload_n 2, 1) := by decide +kernel
theorem dR_deliver_73 : decode prog_8_method_28_code 73 = .ok (.invokevirtual 150, 3) := by decide +kernel
theorem dR_deliver_76 : decode prog_8_method_28_code 76 = .ok (.goto 71, 3) := by decide +kernel
theorem dR_deliver_79 : decode prog_8_method_28_code 79 = .ok (.iload 4, 2) := by decide +kernel
theorem dR_deliver_81 : decode prog_8_method_28_code 81 = .ok (.iconst 1, 1) := by decide +kernel
theorem dR_deliver_82 : decode prog_8_method_28_code 82 = .ok (.if_icmp .ne 19, 3) := by decide +kernel
theorem dR_deliver_85 : decode prog_8_method_28_code 85 = .ok (.aload_n 0, 1) := by decide +kernel
theorem dR_deliver_86 : decode prog_8_method_28_code 86 = .ok (.iload 5, 2) := by decide +kernel
theorem dR_deliver_88 : decode prog_8_method_28_code 88 = .ok (.iload 7, 2) := by decide +kernel
theorem dR_deliver_90 : decode prog_8_method_28_code 90 = .ok (.iload 8, 2) := by decide +kernel
theorem dR_deliver_92 : decode prog_8_method_28_code 92 = .ok (.iload_n 2, 1) := by decide +kernel
theorem dR_deliver_93 : decode prog_8_method_28_code 93 = .ok (.invokevirtual 154, 3) := by decide +kernel
theorem dR_deliver_96 : decode prog_8_method_28_code 96 = .ok (.istore 9, 2) := by decide +kernel
theorem dR_deliver_98 : decode prog_8_method_28_code 98 = .ok (.goto 49, 3) := by decide +kernel
theorem dR_deliver_101 : decode prog_8_method_28_code 101 = .ok (.iload 4, 2) := by decide +kernel
theorem dR_deliver_103 : decode prog_8_method_28_code 103 = .ok (.iconst 2, 1) := by decide +kernel
theorem dR_deliver_104 : decode prog_8_method_28_code 104 = .ok (.if_icmp .ne 12, 3) := by decide +kernel
theorem dR_deliver_107 : decode prog_8_method_28_code 107 = .ok (.aload_n 0, 1) := by decide +kernel
theorem dR_deliver_108 : decode prog_8_method_28_code 108 = .ok (.iload 7, 2) := by decide +kernel
theorem dR_deliver_110 : decode prog_8_method_28_code 110 = .ok (.invokevirtual 158, 3) := by decide +kernel
theorem dR_deliver_113 : decode prog_8_method_28_code 113 = .ok (.goto 34, 3) := by decide +kernel
theorem dR_deliver_116 : decode prog_8_method_28_code 116 = .ok (.iload 4, 2) := by decide +kernel
theorem dR_deliver_118 : decode prog_8_method_28_code 118 = .ok (.iconst 3, 1) := by decide +kernel
theorem dR_deliver_119 : decode prog_8_method_28_code 119 = .ok (.if_icmp .ne 17, 3) := by decide +kernel
theorem dR_deliver_122 : decode prog_8_method_28_code 122 = .ok (.aload_n 0, 1) := by decide +kernel
theorem dR_deliver_123 : decode prog_8_method_28_code 123 = .ok (.iload 7, 2) := by decide +kernel
theorem dR_deliver_125 : decode prog_8_method_28_code 125 = .ok (.iload 8, 2) := by decide +kernel
theorem dR_deliver_127 : decode prog_8_method_28_code 127 = .ok (.iload_n 2, 1) := by decide +kernel
theorem dR_deliver_128 : decode prog_8_method_28_code 128 = .ok (.invokevirtual 162, 3) := by decide +kernel
theorem dR_deliver_131 : decode prog_8_method_28_code 131 = .ok (.istore 9, 2) := by decide +kernel
theorem dR_deliver_133 : decode prog_8_method_28_code 133 = .ok (.goto 14, 3) := by decide +kernel
theorem dR_deliver_136 : decode prog_8_method_28_code 136 = .ok (.aload_n 0, 1) := by decide +kernel
theorem dR_deliver_137 : decode prog_8_method_28_code 137 = .ok (.iload 6, 2) := by decide +kernel
theorem dR_deliver_139 : decode prog_8_method_28_code 139 = .ok (.iload 7, 2) := by decide +kernel
theorem dR_deliver_141 : decode prog_8_method_28_code 141 = .ok (.iload_n 2, 1) := by decide +kernel
theorem dR_deliver_142 : decode prog_8_method_28_code 142 = .ok (.invokevirtual 166, 3) := by decide +kernel
theorem dR_deliver_145 : decode prog_8_method_28_code 145 = .ok (.istore 9, 2) := by decide +kernel
theorem dR_deliver_147 : decode prog_8_method_28_code 147 = .ok (.iload_n 2, 1) := by decide +kernel
theorem dR_deliver_148 : decode prog_8_method_28_code 148 = .ok (.ifCond .ne 54, 3) := by decide +kernel
theorem dR_deliver_151 : decode prog_8_method_28_code 151 = .ok (.iload 9, 2) := by decide +kernel
theorem dR_deliver_153 : decode prog_8_method_28_code 153 = .ok (.ifCond .eq 49, 3) := by decide +kernel
theorem dR_deliver_156 : decode prog_8_method_28_code 156 = .ok (.iload_n 1, 1) := by decide +kernel
theorem dR_deliver_157 : decode prog_8_method_28_code 157 = .ok (.istore 10, 2) := by decide +kernel
theorem dR_deliver_159 : decode prog_8_method_28_code 159 = .ok (.iload 10, 2) := by decide +kernel
theorem dR_deliver_161 : decode prog_8_method_28_code 161 = .ok (.iconst 1, 1) := by decide +kernel
theorem dR_deliver_162 : decode prog_8_method_28_code 162 = .ok (.iadd, 1) := by decide +kernel
theorem dR_deliver_163 : decode prog_8_method_28_code 163 = .ok (.aload_n 0, 1) := by decide +kernel
theorem dR_deliver_164 : decode prog_8_method_28_code 164 = .ok (.getfield 143, 3) := by decide +kernel
theorem dR_deliver_167 : decode prog_8_method_28_code 167 = .ok (.if_icmp .ge 25, 3) := by decide +kernel
theorem dR_deliver_170 : decode prog_8_method_28_code 170 = .ok (.aload_n 0, 1) := by decide +kernel
theorem dR_deliver_171 : decode prog_8_method_28_code 171 = .ok (.getfield 74, 3) := by decide +kernel
theorem dR_deliver_174 : decode prog_8_method_28_code 174 = .ok (.iload 10, 2) := by decide +kernel
theorem dR_deliver_176 : decode prog_8_method_28_code 176 = .ok (.aload_n 0, 1) := by decide +kernel
theorem dR_deliver_177 : decode prog_8_method_28_code 177 = .ok (.getfield 74, 3) := by decide +kernel
theorem dR_deliver_180 : decode prog_8_method_28_code 180 = .ok (.iload 10, 2) := by decide +kernel
theorem dR_deliver_182 : decode prog_8_method_28_code 182 = .ok (.iconst 1, 1) := by decide +kernel
theorem dR_deliver_183 : decode prog_8_method_28_code 183 = .ok (.iadd, 1) := by decide +kernel
theorem dR_deliver_184 : decode prog_8_method_28_code 184 = .ok (.iaload, 1) := by decide +kernel
theorem dR_deliver_185 : decode prog_8_method_28_code 185 = .ok (.iastore, 1) := by decide +kernel
theorem dR_deliver_186 : decode prog_8_method_28_code 186 = .ok (.iinc 10 1, 3) := by decide +kernel
theorem dR_deliver_189 : decode prog_8_method_28_code 189 = .ok (.goto (-30), 3) := by decide +kernel
theorem dR_deliver_192 : decode prog_8_method_28_code 192 = .ok (.aload_n 0, 1) := by decide +kernel
theorem dR_deliver_193 : decode prog_8_method_28_code 193 = .ok (.dup, 1) := by decide +kernel
theorem dR_deliver_194 : decode prog_8_method_28_code 194 = .ok (.getfield 143, 3) := by decide +kernel
theorem dR_deliver_197 : decode prog_8_method_28_code 197 = .ok (.iconst 1, 1) := by decide +kernel
theorem dR_deliver_198 : decode prog_8_method_28_code 198 = .ok (.isub, 1) := by decide +kernel
theorem dR_deliver_199 : decode prog_8_method_28_code 199 = .ok (.putfield 143, 3) := by decide +kernel
theorem dR_deliver_202 : decode prog_8_method_28_code 202 = .ok (.iload 9, 2) := by decide +kernel
theorem dR_deliver_204 : decode prog_8_method_28_code 204 = .ok (.ireturn, 1) := by decide +kernel
theorem dR_ask_0 : decode prog_8_method_29_code 0 = .ok (.bipush 20, 2) := by decide +kernel
theorem dR_ask_2 : decode prog_8_method_29_code 2 = .ok (.iload_n 1, 1) := by decide +kernel
theorem dR_ask_3 : decode prog_8_method_29_code 3 = .ok (.imul, 1) := by decide +kernel
theorem dR_ask_4 : decode prog_8_method_29_code 4 = .ok (.iload_n 2, 1) := by decide +kernel
theorem dR_ask_5 : decode prog_8_method_29_code 5 = .ok (.iadd, 1) := by decide +kernel
theorem dR_ask_6 : decode prog_8_method_29_code 6 = .ok (.istore 4, 2) := by decide +kernel
theorem dR_ask_8 : decode prog_8_method_29_code 8 = .ok (.aload_n 0, 1) := by decide +kernel
theorem dR_ask_9 : decode prog_8_method_29_code 9 = .ok (.getfield 65, 3) := by decide +kernel
theorem dR_ask_12 : decode prog_8_method_29_code 12 = .ok (.iload 4, 2) := by decide +kernel
theorem dR_ask_14 : decode prog_8_method_29_code 14 = .ok (.iaload, 1) := by decide +kernel
theorem dR_ask_15 : decode prog_8_method_29_code 15 = .ok (.ifCond .ne 33, 3) := by decide +kernel
theorem dR_ask_18 : decode prog_8_method_29_code 18 = .ok (.aload_n 0, 1) := by decide +kernel
theorem dR_ask_19 : decode prog_8_method_29_code 19 = .ok (.getfield 65, 3) := by decide +kernel
theorem dR_ask_22 : decode prog_8_method_29_code 22 = .ok (.iload 4, 2) := by decide +kernel
theorem dR_ask_24 : decode prog_8_method_29_code 24 = .ok (.aload_n 0, 1) := by decide +kernel
theorem dR_ask_25 : decode prog_8_method_29_code 25 = .ok (.getfield 71, 3) := by decide +kernel
theorem dR_ask_28 : decode prog_8_method_29_code 28 = .ok (.iconst 4, 1) := by decide +kernel
theorem dR_ask_29 : decode prog_8_method_29_code 29 = .ok (.iload_n 1, 1) := by decide +kernel
theorem dR_ask_30 : decode prog_8_method_29_code 30 = .ok (.imul, 1) := by decide +kernel
theorem dR_ask_31 : decode prog_8_method_29_code 31 = .ok (.aload_n 0, 1) := by decide +kernel
theorem dR_ask_32 : decode prog_8_method_29_code 32 = .ok (.getfield 7, 3) := by decide +kernel
theorem dR_ask_35 : decode prog_8_method_29_code 35 = .ok (.iload_n 2, 1) := by decide +kernel
theorem dR_ask_36 : decode prog_8_method_29_code 36 = .ok (.iaload, 1) := by decide +kernel
theorem dR_ask_37 : decode prog_8_method_29_code 37 = .ok (.iadd, 1) := by decide +kernel
theorem dR_ask_38 : decode prog_8_method_29_code 38 = .ok (.baload, 1) := by decide +kernel
theorem dR_ask_39 : decode prog_8_method_29_code 39 = .ok (.ifCond .eq 7, 3) := by decide +kernel
theorem dR_ask_42 : decode prog_8_method_29_code 42 = .ok (.iconst 2, 1) := by decide +kernel
theorem dR_ask_43 : decode prog_8_method_29_code 43 = .ok (.goto 4, 3) := by decide +kernel
theorem dR_ask_46 : decode prog_8_method_29_code 46 = .ok (.iconst 1, 1) := by decide +kernel
theorem dR_ask_47 : decode prog_8_method_29_code 47 = .ok (.iastore, 1) := by decide +kernel
theorem dR_ask_48 : decode prog_8_method_29_code 48 = .ok (.aload_n 0, 1) := by decide +kernel
theorem dR_ask_49 : decode prog_8_method_29_code 49 = .ok (.getfield 65, 3) := by decide +kernel
theorem dR_ask_52 : decode prog_8_method_29_code 52 = .ok (.iload 4, 2) := by decide +kernel
theorem dR_ask_54 : decode prog_8_method_29_code 54 = .ok (.iaload, 1) := by decide +kernel
theorem dR_ask_55 : decode prog_8_method_29_code 55 = .ok (.iconst 1, 1) := by decide +kernel
theorem dR_ask_56 : decode prog_8_method_29_code 56 = .ok (.if_icmp .ne 13, 3) := by decide +kernel
theorem dR_ask_59 : decode prog_8_method_29_code 59 = .ok (.iload_n 3, 1) := by decide +kernel
theorem dR_ask_60 : decode prog_8_method_29_code 60 = .ok (.ifCond .ne 9, 3) := by decide +kernel
theorem dR_ask_63 : decode prog_8_method_29_code 63 = .ok (.aload_n 0, 1) := by decide +kernel
theorem dR_ask_64 : decode prog_8_method_29_code 64 = .ok (.iload_n 1, 1) := by decide +kernel
theorem dR_ask_65 : decode prog_8_method_29_code 65 = .ok (.iload_n 2, 1) := by decide +kernel
theorem dR_ask_66 : decode prog_8_method_29_code 66 = .ok (.invokevirtual 169, 3) := by decide +kernel
theorem dR_ask_69 : decode prog_8_method_29_code 69 = .ok (.aload_n 0, 1) := by decide +kernel
theorem dR_ask_70 : decode prog_8_method_29_code 70 = .ok (.iconst 1, 1) := by decide +kernel
theorem dR_ask_71 : decode prog_8_method_29_code 71 = .ok (.iload_n 1, 1) := by decide +kernel
theorem dR_ask_72 : decode prog_8_method_29_code 72 = .ok (.aload_n 0, 1) := by decide +kernel
theorem dR_ask_73 : decode prog_8_method_29_code 73 = .ok (.getfield 7, 3) := by decide +kernel
theorem dR_ask_76 : decode prog_8_method_29_code 76 = .ok (.iload_n 2, 1) := by decide +kernel
theorem dR_ask_77 : decode prog_8_method_29_code 77 = .ok (.iaload, 1) := by decide +kernel
theorem dR_ask_78 : decode prog_8_method_29_code 78 = .ok (.iload_n 2, 1) := by decide +kernel
theorem dR_ask_79 : decode prog_8_method_29_code 79 = .ok (.aload_n 0, 1) := by decide +kernel
theorem dR_ask_80 : decode prog_8_method_29_code 80 = .ok (.getfield 65, 3) := by decide +kernel
theorem dR_ask_83 : decode prog_8_method_29_code 83 = .ok (.iload 4, 2) := by decide +kernel
theorem dR_ask_85 : decode prog_8_method_29_code 85 = .ok (.iaload, 1) := by decide +kernel
theorem dR_ask_86 : decode prog_8_method_29_code 86 = .ok (.iconst 1, 1) := by decide +kernel
theorem dR_ask_87 : decode prog_8_method_29_code 87 = .ok (.if_icmp .ne 7, 3) := by decide +kernel
theorem dR_ask_90 : decode prog_8_method_29_code 90 = .ok (.iconst 1, 1) := by decide +kernel
theorem dR_ask_91 : decode prog_8_method_29_code 91 = .ok (.goto 4, 3) := by decide +kernel
theorem dR_ask_94 : decode prog_8_method_29_code 94 = .ok (.iconst 0, 1) := by decide +kernel
theorem dR_ask_95 : decode prog_8_method_29_code 95 = .ok (.invokevirtual 146, 3) := by decide +kernel
theorem dR_ask_98 : decode prog_8_method_29_code 98 = .ok (.pop, 1) := by decide +kernel
theorem dR_ask_99 : decode prog_8_method_29_code 99 = .ok (.return_, 1) := by decide +kernel
theorem dR_fetch_0 : decode prog_8_method_27_code 0 = .ok (.iconst 0, 1) := by decide +kernel
theorem dR_fetch_1 : decode prog_8_method_27_code 1 = .ok (.istore_n 3, 1) := by decide +kernel
theorem dR_fetch_2 : decode prog_8_method_27_code 2 = .ok (.iload_n 3, 1) := by decide +kernel
theorem dR_fetch_3 : decode prog_8_method_27_code 3 = .ok (.bipush 20, 2) := by decide +kernel
theorem dR_fetch_5 : decode prog_8_method_27_code 5 = .ok (.if_icmp .ge 16, 3) := by decide +kernel
theorem dR_fetch_8 : decode prog_8_method_27_code 8 = .ok (.aload_n 0, 1) := by decide +kernel
theorem dR_fetch_9 : decode prog_8_method_27_code 9 = .ok (.getfield 77, 3) := by decide +kernel
theorem dR_fetch_12 : decode prog_8_method_27_code 12 = .ok (.iload_n 3, 1) := by decide +kernel
theorem dR_fetch_13 : decode prog_8_method_27_code 13 = .ok (.iconst 0, 1) := by decide +kernel
theorem dR_fetch_14 : decode prog_8_method_27_code 14 = .ok (.bastore, 1) := by decide +kernel
theorem dR_fetch_15 : decode prog_8_method_27_code 15 = .ok (.iinc 3 1, 3) := by decide +kernel
theorem dR_fetch_18 : decode prog_8_method_27_code 18 = .ok (.goto (-16), 3) := by decide +kernel
theorem dR_fetch_21 : decode prog_8_method_27_code 21 = .ok (.iconst 0, 1) := by decide +kernel
theorem dR_fetch_22 : decode prog_8_method_27_code 22 = .ok (.istore_n 3, 1) := by decide +kernel
theorem dR_fetch_23 : decode prog_8_method_27_code 23 = .ok (.iload_n 3, 1) := by decide +kernel
theorem dR_fetch_24 : decode prog_8_method_27_code 24 = .ok (.aload_n 0, 1) := by decide +kernel
theorem dR_fetch_25 : decode prog_8_method_27_code 25 = .ok (.getfield 35, 3) := by decide +kernel
theorem dR_fetch_28 : decode prog_8_method_27_code 28 = .ok (.iload_n 2, 1) := by decide +kernel
theorem dR_fetch_29 : decode prog_8_method_27_code 29 = .ok (.iaload, 1) := by decide +kernel
theorem dR_fetch_30 : decode prog_8_method_27_code 30 = .ok (.if_icmp .ge 27, 3) := by decide +kernel
theorem dR_fetch_33 : decode prog_8_method_27_code 33 = .ok (.aload_n 0, 1) := by decide +kernel
theorem dR_fetch_34 : decode prog_8_method_27_code 34 = .ok (.getfield 77, 3) := by decide +kernel
theorem dR_fetch_37 : decode prog_8_method_27_code 37 = .ok (.aload_n 0, 1) := by decide +kernel
theorem dR_fetch_38 : decode prog_8_method_27_code 38 = .ok (.getfield 41, 3) := by decide +kernel
theorem dR_fetch_41 : decode prog_8_method_27_code 41 = .ok (.iconst 4, 1) := by decide +kernel
theorem dR_fetch_42 : decode prog_8_method_27_code 42 = .ok (.iload_n 2, 1) := by decide +kernel
theorem dR_fetch_43 : decode prog_8_method_27_code 43 = .ok (.imul, 1) := by decide +kernel
theorem dR_fetch_44 : decode prog_8_method_27_code 44 = .ok (.iload_n 3, 1) := by decide +kernel
theorem dR_fetch_45 : decode prog_8_method_27_code 45 = .ok (.iadd, 1) := by decide +kernel
theorem dR_fetch_46 : decode prog_8_method_27_code 46 = .ok (.iaload, 1) := by decide +kernel
theorem dR_fetch_47 : decode prog_8_method_27_code 47 = .ok (.iconst 4, 1) := by decide +kernel
theorem dR_fetch_48 : decode prog_8_method_27_code 48 = .ok (.idiv, 1) := by decide +kernel
theorem dR_fetch_49 : decode prog_8_method_27_code 49 = .ok (.iconst 1, 1) := by decide +kernel
theorem dR_fetch_50 : decode prog_8_method_27_code 50 = .ok (.bastore, 1) := by decide +kernel
theorem dR_fetch_51 : decode prog_8_method_27_code 51 = .ok (.iinc 3 1, 3) := by decide +kernel
theorem dR_fetch_54 : decode prog_8_method_27_code 54 = .ok (.goto (-31), 3) := by decide +kernel
theorem dR_fetch_57 : decode prog_8_method_27_code 57 = .ok (.iconst 1, 1) := by decide +kernel
theorem dR_fetch_58 : decode prog_8_method_27_code 58 = .ok (.istore_n 3, 1) := by decide +kernel
theorem dR_fetch_59 : decode prog_8_method_27_code 59 = .ok (.iconst 0, 1) := by decide +kernel
theorem dR_fetch_60 : decode prog_8_method_27_code 60 = .ok (.istore 4, 2) := by decide +kernel
theorem dR_fetch_62 : decode prog_8_method_27_code 62 = .ok (.iload 4, 2) := by decide +kernel
theorem dR_fetch_64 : decode prog_8_method_27_code 64 = .ok (.bipush 21, 2) := by decide +kernel
theorem dR_fetch_66 : decode prog_8_method_27_code 66 = .ok (.if_icmp .ge 114, 3) := by decide +kernel
theorem dR_fetch_69 : decode prog_8_method_27_code 69 = .ok (.iload_n 3, 1) := by decide +kernel
theorem dR_fetch_70 : decode prog_8_method_27_code 70 = .ok (.ifCond .eq 110, 3) := by decide +kernel
theorem dR_fetch_73 : decode prog_8_method_27_code 73 = .ok (.iconst 0, 1) := by decide +kernel
theorem dR_fetch_74 : decode prog_8_method_27_code 74 = .ok (.istore_n 3, 1) := by decide +kernel
theorem dR_fetch_75 : decode prog_8_method_27_code 75 = .ok (.iconst 0, 1) := by decide +kernel
theorem dR_fetch_76 : decode prog_8_method_27_code 76 = .ok (.istore 5, 2) := by decide +kernel
theorem dR_fetch_78 : decode prog_8_method_27_code 78 = .ok (.iload 5, 2) := by decide +kernel
theorem dR_fetch_80 : decode prog_8_method_27_code 80 = .ok (.bipush 80, 2) := by decide +kernel
theorem dR_fetch_82 : decode prog_8_method_27_code 82 = .ok (.if_icmp .ge 92, 3) := by decide +kernel
theorem dR_fetch_85 : decode prog_8_method_27_code 85 = .ok (.iload 5, 2) := by decide +kernel
theorem dR_fetch_87 : decode prog_8_method_27_code 87 = .ok (.iconst 4, 1) := by decide +kernel
theorem dR_fetch_88 : decode prog_8_method_27_code 88 = .ok (.idiv, 1) := by decide +kernel
theorem dR_fetch_89 : decode prog_8_method_27_code 89 = .ok (.istore 6, 2) := by decide +kernel
theorem dR_fetch_91 : decode prog_8_method_27_code 91 = .ok (.aload_n 0, 1) := by decide +kernel
theorem dR_fetch_92 : decode prog_8_method_27_code 92 = .ok (.getfield 77, 3) := by decide +kernel
theorem dR_fetch_95 : decode prog_8_method_27_code 95 = .ok (.iload 6, 2) := by decide +kernel
theorem dR_fetch_97 : decode prog_8_method_27_code 97 = .ok (.baload, 1) := by decide +kernel
theorem dR_fetch_98 : decode prog_8_method_27_code 98 = .ok (.ifCond .eq 21, 3) := by decide +kernel
theorem dR_fetch_101 : decode prog_8_method_27_code 101 = .ok (.iload 5, 2) := by decide +kernel
theorem dR_fetch_103 : decode prog_8_method_27_code 103 = .ok (.iconst 4, 1) := by decide +kernel
theorem dR_fetch_104 : decode prog_8_method_27_code 104 = .ok (.irem, 1) := by decide +kernel
theorem dR_fetch_105 : decode prog_8_method_27_code 105 = .ok (.aload_n 0, 1) := by decide +kernel
theorem dR_fetch_106 : decode prog_8_method_27_code 106 = .ok (.getfield 35, 3) := by decide +kernel
theorem dR_fetch_109 : decode prog_8_method_27_code 109 = .ok (.iload 6, 2) := by decide +kernel
theorem dR_fetch_111 : decode prog_8_method_27_code 111 = .ok (.iaload, 1) := by decide +kernel
theorem dR_fetch_112 : decode prog_8_method_27_code 112 = .ok (.if_icmp .ge 7, 3) := by decide +kernel
theorem dR_fetch_115 : decode prog_8_method_27_code 115 = .ok (.iconst 1, 1) := by decide +kernel
theorem dR_fetch_116 : decode prog_8_method_27_code 116 = .ok (.goto 4, 3) := by decide +kernel
theorem dR_fetch_119 : decode prog_8_method_27_code 119 = .ok (.iconst 0, 1) := by decide +kernel
theorem dR_fetch_120 : decode prog_8_method_27_code 120 = .ok (.istore 7, 2) := by decide +kernel
theorem dR_fetch_122 : decode prog_8_method_27_code 122 = .ok (.iload 7, 2) := by decide +kernel
theorem dR_fetch_124 : decode prog_8_method_27_code 124 = .ok (.ifCond .eq 15, 3) := by decide +kernel
theorem dR_fetch_127 : decode prog_8_method_27_code 127 = .ok (.aload_n 0, 1) := by decide +kernel
theorem dR_fetch_128 : decode prog_8_method_27_code 128 = .ok (.getfield 41, 3) := by decide +kernel
theorem dR_fetch_131 : decode prog_8_method_27_code 131 = .ok (.iload 5, 2) := by decide +kernel
theorem dR_fetch_133 : decode prog_8_method_27_code 133 = .ok (.iaload, 1) := by decide +kernel
theorem dR_fetch_134 : decode prog_8_method_27_code 134 = .ok (.iconst 4, 1) := by decide +kernel
theorem dR_fetch_135 : decode prog_8_method_27_code 135 = .ok (.idiv, 1) := by decide +kernel
theorem dR_fetch_136 : decode prog_8_method_27_code 136 = .ok (.goto 5, 3) := by decide +kernel
theorem dR_fetch_139 : decode prog_8_method_27_code 139 = .ok (.iload 6, 2) := by decide +kernel
theorem dR_fetch_141 : decode prog_8_method_27_code 141 = .ok (.istore 8, 2) := by decide +kernel
theorem dR_fetch_143 : decode prog_8_method_27_code 143 = .ok (.iload 7, 2) := by decide +kernel
theorem dR_fetch_145 : decode prog_8_method_27_code 145 = .ok (.ifCond .eq 23, 3) := by decide +kernel
theorem dR_fetch_148 : decode prog_8_method_27_code 148 = .ok (.aload_n 0, 1) := by decide +kernel
theorem dR_fetch_149 : decode prog_8_method_27_code 149 = .ok (.getfield 77, 3) := by decide +kernel
theorem dR_fetch_152 : decode prog_8_method_27_code 152 = .ok (.iload 8, 2) := by decide +kernel
theorem dR_fetch_154 : decode prog_8_method_27_code 154 = .ok (.baload, 1) := by decide +kernel
theorem dR_fetch_155 : decode prog_8_method_27_code 155 = .ok (.ifCond .ne 13, 3) := by decide +kernel
theorem dR_fetch_158 : decode prog_8_method_27_code 158 = .ok (.aload_n 0, 1) := by decide +kernel
theorem dR_fetch_159 : decode prog_8_method_27_code 159 = .ok (.getfield 77, 3) := by decide +kernel
theorem dR_fetch_162 : decode prog_8_method_27_code 162 = .ok (.iload 8, 2) := by decide +kernel
theorem dR_fetch_164 : decode prog_8_method_27_code 164 = .ok (.iconst 1, 1) := by decide +kernel
theorem dR_fetch_165 : decode prog_8_method_27_code 165 = .ok (.bastore, 1) := by decide +kernel
theorem dR_fetch_166 : decode prog_8_method_27_code 166 = .ok (.iconst 1, 1) := by decide +kernel
theorem dR_fetch_167 : decode prog_8_method_27_code 167 = .ok (.istore_n 3, 1) := by decide +kernel
theorem dR_fetch_168 : decode prog_8_method_27_code 168 = .ok (.iinc 5 1, 3) := by decide +kernel
theorem dR_fetch_171 : decode prog_8_method_27_code 171 = .ok (.goto (-93), 3) := by decide +kernel
theorem dR_fetch_174 : decode prog_8_method_27_code 174 = .ok (.iinc 4 1, 3) := by decide +kernel
theorem dR_fetch_177 : decode prog_8_method_27_code 177 = .ok (.goto (-115), 3) := by decide +kernel
theorem dR_fetch_180 : decode prog_8_method_27_code 180 = .ok (.iconst 0, 1) := by decide +kernel
theorem dR_fetch_181 : decode prog_8_method_27_code 181 = .ok (.istore 4, 2) := by decide +kernel
theorem dR_fetch_183 : decode prog_8_method_27_code 183 = .ok (.iload 4, 2) := by decide +kernel
theorem dR_fetch_185 : decode prog_8_method_27_code 185 = .ok (.bipush 20, 2) := by decide +kernel
theorem dR_fetch_187 : decode prog_8_method_27_code 187 = .ok (.if_icmp .ge 57, 3) := by decide +kernel
theorem dR_fetch_190 : decode prog_8_method_27_code 190 = .ok (.aload_n 0, 1) := by decide +kernel
theorem dR_fetch_191 : decode prog_8_method_27_code 191 = .ok (.getfield 77, 3) := by decide +kernel
theorem dR_fetch_194 : decode prog_8_method_27_code 194 = .ok (.iload 4, 2) := by decide +kernel
theorem dR_fetch_196 : decode prog_8_method_27_code 196 = .ok (.baload, 1) := by decide +kernel
theorem dR_fetch_197 : decode prog_8_method_27_code 197 = .ok (.ifCond .eq 41, 3) := by decide +kernel
theorem dR_fetch_200 : decode prog_8_method_27_code 200 = .ok (.aload_n 0, 1) := by decide +kernel
theorem dR_fetch_201 : decode prog_8_method_27_code 201 = .ok (.getfield 62, 3) := by decide +kernel
theorem dR_fetch_204 : decode prog_8_method_27_code 204 = .ok (.bipush 20, 2) := by decide +kernel
theorem dR_fetch_206 : decode prog_8_method_27_code 206 = .ok (.iload_n 1, 1) := by decide +kernel
theorem dR_fetch_207 : decode prog_8_method_27_code 207 = .ok (.imul, 1) := by decide +kernel
theorem dR_fetch_208 : decode prog_8_method_27_code 208 = .ok (.iload 4, 2) := by decide +kernel
theorem dR_fetch_210 : decode prog_8_method_27_code 210 = .ok (.iadd, 1) := by decide +kernel
theorem dR_fetch_211 : decode prog_8_method_27_code 211 = .ok (.iaload, 1) := by decide +kernel
theorem dR_fetch_212 : decode prog_8_method_27_code 212 = .ok (.ifCond .ne 26, 3) := by decide +kernel
theorem dR_fetch_215 : decode prog_8_method_27_code 215 = .ok (.aload_n 0, 1) := by decide +kernel
theorem dR_fetch_216 : decode prog_8_method_27_code 216 = .ok (.getfield 62, 3) := by decide +kernel
theorem dR_fetch_219 : decode prog_8_method_27_code 219 = .ok (.bipush 20, 2) := by decide +kernel
theorem dR_fetch_221 : decode prog_8_method_27_code 221 = .ok (.iload_n 1, 1) := by decide +kernel
theorem dR_fetch_222 : decode prog_8_method_27_code 222 = .ok (.imul, 1) := by decide +kernel
theorem dR_fetch_223 : decode prog_8_method_27_code 223 = .ok (.iload 4, 2) := by decide +kernel
theorem dR_fetch_225 : decode prog_8_method_27_code 225 = .ok (.iadd, 1) := by decide +kernel
theorem dR_fetch_226 : decode prog_8_method_27_code 226 = .ok (.iconst 1, 1) := by decide +kernel
theorem dR_fetch_227 : decode prog_8_method_27_code 227 = .ok (.iastore, 1) := by decide +kernel
theorem dR_fetch_228 : decode prog_8_method_27_code 228 = .ok (.aload_n 0, 1) := by decide +kernel
theorem dR_fetch_229 : decode prog_8_method_27_code 229 = .ok (.getfield 68, 3) := by decide +kernel
theorem dR_fetch_232 : decode prog_8_method_27_code 232 = .ok (.iload_n 1, 1) := by decide +kernel
theorem dR_fetch_233 : decode prog_8_method_27_code 233 = .ok (.dup2, 1) := by decide +kernel
theorem dR_fetch_234 : decode prog_8_method_27_code 234 = .ok (.iaload, 1) := by decide +kernel
theorem dR_fetch_235 : decode prog_8_method_27_code 235 = .ok (.iconst 1, 1) := by decide +kernel
theorem dR_fetch_236 : decode prog_8_method_27_code 236 = .ok (.iadd, 1) := by decide +kernel
theorem dR_fetch_237 : decode prog_8_method_27_code 237 = .ok (.iastore, 1) := by decide +kernel
theorem dR_fetch_238 : decode prog_8_method_27_code 238 = .ok (.iinc 4 1, 3) := by decide +kernel
theorem dR_fetch_241 : decode prog_8_method_27_code 241 = .ok (.goto (-58), 3) := by decide +kernel
theorem dR_fetch_244 : decode prog_8_method_27_code 244 = .ok (.return_, 1) := by decide +kernel
theorem dR_reply_0 : decode prog_8_method_30_code 0 = .ok (.aload_n 0, 1) := by decide +kernel
theorem dR_reply_1 : decode prog_8_method_30_code 1 = .ok (.getfield 22, 3) := by decide +kernel
theorem dR_reply_4 : decode prog_8_method_30_code 4 = .ok (.iload_n 2, 1) := by decide +kernel
theorem dR_reply_5 : decode prog_8_method_30_code 5 = .ok (.iaload, 1) := by decide +kernel
theorem dR_reply_6 : decode prog_8_method_30_code 6 = .ok (.iconst 1, 1) := by decide +kernel
theorem dR_reply_7 : decode prog_8_method_30_code 7 = .ok (.if_icmp .ne 17, 3) := by decide +kernel
theorem dR_reply_10 : decode prog_8_method_30_code 10 = .ok (.aload_n 0, 1) := by decide +kernel
theorem dR_reply_11 : decode prog_8_method_30_code 11 = .ok (.getfield 29, 3) := by decide +kernel
theorem dR_reply_14 : decode prog_8_method_30_code 14 = .ok (.iload_n 2, 1) := by decide +kernel
theorem dR_reply_15 : decode prog_8_method_30_code 15 = .ok (.iaload, 1) := by decide +kernel
theorem dR_reply_16 : decode prog_8_method_30_code 16 = .ok (.iload_n 1, 1) := by decide +kernel
theorem dR_reply_17 : decode prog_8_method_30_code 17 = .ok (.ishr, 1) := by decide +kernel
theorem dR_reply_18 : decode prog_8_method_30_code 18 = .ok (.iconst 1, 1) := by decide +kernel
theorem dR_reply_19 : decode prog_8_method_30_code 19 = .ok (.iand, 1) := by decide +kernel
theorem dR_reply_20 : decode prog_8_method_30_code 20 = .ok (.iconst 1, 1) := by decide +kernel
theorem dR_reply_21 : decode prog_8_method_30_code 21 = .ok (.if_icmp .ne 5, 3) := by decide +kernel
theorem dR_reply_24 : decode prog_8_method_30_code 24 = .ok (.iconst 1, 1) := by decide +kernel
theorem dR_reply_25 : decode prog_8_method_30_code 25 = .ok (.ireturn, 1) := by decide +kernel
theorem dR_reply_26 : decode prog_8_method_30_code 26 = .ok (.iload_n 3, 1) := by decide +kernel
theorem dR_reply_27 : decode prog_8_method_30_code 27 = .ok (.ifCond .ne 17, 3) := by decide +kernel
theorem dR_reply_30 : decode prog_8_method_30_code 30 = .ok (.iload 4, 2) := by decide +kernel
theorem dR_reply_32 : decode prog_8_method_30_code 32 = .ok (.ifCond .ne 10, 3) := by decide +kernel
theorem dR_reply_35 : decode prog_8_method_30_code 35 = .ok (.aload_n 0, 1) := by decide +kernel
theorem dR_reply_36 : decode prog_8_method_30_code 36 = .ok (.getfield 22, 3) := by decide +kernel
theorem dR_reply_39 : decode prog_8_method_30_code 39 = .ok (.iload_n 2, 1) := by decide +kernel
theorem dR_reply_40 : decode prog_8_method_30_code 40 = .ok (.iconst 4, 1) := by decide +kernel
theorem dR_reply_41 : decode prog_8_method_30_code 41 = .ok (.iastore, 1) := by decide +kernel
theorem dR_reply_42 : decode prog_8_method_30_code 42 = .ok (.iconst 2, 1) := by decide +kernel
theorem dR_reply_43 : decode prog_8_method_30_code 43 = .ok (.ireturn, 1) := by decide +kernel
theorem dR_reply_44 : decode prog_8_method_30_code 44 = .ok (.aload_n 0, 1) := by decide +kernel
theorem dR_reply_45 : decode prog_8_method_30_code 45 = .ok (.getfield 29, 3) := by decide +kernel
theorem dR_reply_48 : decode prog_8_method_30_code 48 = .ok (.iload_n 2, 1) := by decide +kernel
theorem dR_reply_49 : decode prog_8_method_30_code 49 = .ok (.iaload, 1) := by decide +kernel
theorem dR_reply_50 : decode prog_8_method_30_code 50 = .ok (.iconst 1, 1) := by decide +kernel
theorem dR_reply_51 : decode prog_8_method_30_code 51 = .ok (.iload_n 1, 1) := by decide +kernel
theorem dR_reply_52 : decode prog_8_method_30_code 52 = .ok (.ishl, 1) := by decide +kernel
theorem dR_reply_53 : decode prog_8_method_30_code 53 = .ok (.ior, 1) := by decide +kernel
theorem dR_reply_54 : decode prog_8_method_30_code 54 = .ok (.istore 5, 2) := by decide +kernel
theorem dR_reply_56 : decode prog_8_method_30_code 56 = .ok (.aload_n 0, 1) := by decide +kernel
theorem dR_reply_57 : decode prog_8_method_30_code 57 = .ok (.iload_n 2, 1) := by decide +kernel
theorem dR_reply_58 : decode prog_8_method_30_code 58 = .ok (.invokevirtual 133, 3) := by decide +kernel
theorem dR_reply_61 : decode prog_8_method_30_code 61 = .ok (.iload 5, 2) := by decide +kernel
theorem dR_reply_63 : decode prog_8_method_30_code 63 = .ok (.iconst (-1), 1) := by decide +kernel
theorem dR_reply_64 : decode prog_8_method_30_code 64 = .ok (.ixor, 1) := by decide +kernel
theorem dR_reply_65 : decode prog_8_method_30_code 65 = .ok (.iand, 1) := by decide +kernel
theorem dR_reply_66 : decode prog_8_method_30_code 66 = .ok (.ifCond .ne 7, 3) := by decide +kernel
theorem dR_reply_69 : decode prog_8_method_30_code 69 = .ok (.iconst 1, 1) := by decide +kernel
theorem dR_reply_70 : decode prog_8_method_30_code 70 = .ok (.goto 4, 3) := by decide +kernel
theorem dR_reply_73 : decode prog_8_method_30_code 73 = .ok (.iconst 0, 1) := by decide +kernel
theorem dR_reply_74 : decode prog_8_method_30_code 74 = .ok (.istore 6, 2) := by decide +kernel
theorem dR_reply_76 : decode prog_8_method_30_code 76 = .ok (.iload 6, 2) := by decide +kernel
theorem dR_reply_78 : decode prog_8_method_30_code 78 = .ok (.ifCond .eq 23, 3) := by decide +kernel
theorem dR_reply_81 : decode prog_8_method_30_code 81 = .ok (.aload_n 0, 1) := by decide +kernel
theorem dR_reply_82 : decode prog_8_method_30_code 82 = .ok (.iconst 2, 1) := by decide +kernel
theorem dR_reply_83 : decode prog_8_method_30_code 83 = .ok (.aload_n 0, 1) := by decide +kernel
theorem dR_reply_84 : decode prog_8_method_30_code 84 = .ok (.getfield 7, 3) := by decide +kernel
theorem dR_reply_87 : decode prog_8_method_30_code 87 = .ok (.iload_n 2, 1) := by decide +kernel
theorem dR_reply_88 : decode prog_8_method_30_code 88 = .ok (.iaload, 1) := by decide +kernel
theorem dR_reply_89 : decode prog_8_method_30_code 89 = .ok (.aload_n 0, 1) := by decide +kernel
theorem dR_reply_90 : decode prog_8_method_30_code 90 = .ok (.getfield 13, 3) := by decide +kernel
theorem dR_reply_93 : decode prog_8_method_30_code 93 = .ok (.iload_n 2, 1) := by decide +kernel
theorem dR_reply_94 : decode prog_8_method_30_code 94 = .ok (.iaload, 1) := by decide +kernel
theorem dR_reply_95 : decode prog_8_method_30_code 95 = .ok (.iload_n 2, 1) := by decide +kernel
theorem dR_reply_96 : decode prog_8_method_30_code 96 = .ok (.iconst 0, 1) := by decide +kernel
theorem dR_reply_97 : decode prog_8_method_30_code 97 = .ok (.invokevirtual 146, 3) := by decide +kernel
theorem dR_reply_100 : decode prog_8_method_30_code 100 = .ok (.pop, 1) := by decide +kernel
theorem dR_reply_101 : decode prog_8_method_30_code 101 = .ok (.iload 4, 2) := by decide +kernel
theorem dR_reply_103 : decode prog_8_method_30_code 103 = .ok (.ifCond .ne 27, 3) := by decide +kernel
theorem dR_reply_106 : decode prog_8_method_30_code 106 = .ok (.aload_n 0, 1) := by decide +kernel
theorem dR_reply_107 : decode prog_8_method_30_code 107 = .ok (.getfield 29, 3) := by decide +kernel
theorem dR_reply_110 : decode prog_8_method_30_code 110 = .ok (.iload_n 2, 1) := by decide +kernel
theorem dR_reply_111 : decode prog_8_method_30_code 111 = .ok (.iload 5, 2) := by decide +kernel
theorem dR_reply_113 : decode prog_8_method_30_code 113 = .ok (.iastore, 1) := by decide +kernel
theorem dR_reply_114 : decode prog_8_method_30_code 114 = .ok (.aload_n 0, 1) := by decide +kernel
theorem dR_reply_115 : decode prog_8_method_30_code 115 = .ok (.getfield 22, 3) := by decide +kernel
theorem dR_reply_118 : decode prog_8_method_30_code 118 = .ok (.iload_n 2, 1) := by decide +kernel
theorem dR_reply_119 : decode prog_8_method_30_code 119 = .ok (.iload 6, 2) := by decide +kernel
theorem dR_reply_121 : decode prog_8_method_30_code 121 = .ok (.ifCond .eq 7, 3) := by decide +kernel
theorem dR_reply_124 : decode prog_8_method_30_code 124 = .ok (.iconst 2, 1) := by decide +kernel
theorem dR_reply_125 : decode prog_8_method_30_code 125 = .ok (.goto 4, 3) := by decide +kernel
theorem dR_reply_128 : decode prog_8_method_30_code 128 = .ok (.iconst 1, 1) := by decide +kernel
theorem dR_reply_129 : decode prog_8_method_30_code 129 = .ok (.iastore, 1) := by decide +kernel
theorem dR_reply_130 : decode prog_8_method_30_code 130 = .ok (.iconst 2, 1) := by decide +kernel
theorem dR_reply_131 : decode prog_8_method_30_code 131 = .ok (.ireturn, 1) := by decide +kernel
theorem dR_notarise_0 : decode prog_8_method_32_code 0 = .ok (.aload_n 0, 1) := by decide +kernel
theorem dR_notarise_1 : decode prog_8_method_32_code 1 = .ok (.getfield 32, 3) := by decide +kernel
theorem dR_notarise_4 : decode prog_8_method_32_code 4 = .ok (.iload_n 1, 1) := by decide +kernel
theorem dR_notarise_5 : decode prog_8_method_32_code 5 = .ok (.iaload, 1) := by decide +kernel
theorem dR_notarise_6 : decode prog_8_method_32_code 6 = .ok (.ifCond .ne 58, 3) := by decide +kernel
theorem dR_notarise_9 : decode prog_8_method_32_code 9 = .ok (.aload_n 0, 1) := by decide +kernel
theorem dR_notarise_10 : decode prog_8_method_32_code 10 = .ok (.getfield 32, 3) := by decide +kernel
theorem dR_notarise_13 : decode prog_8_method_32_code 13 = .ok (.iload_n 1, 1) := by decide +kernel
theorem dR_notarise_14 : decode prog_8_method_32_code 14 = .ok (.aload_n 0, 1) := by decide +kernel
theorem dR_notarise_15 : decode prog_8_method_32_code 15 = .ok (.iload_n 1, 1) := by decide +kernel
theorem dR_notarise_16 : decode prog_8_method_32_code 16 = .ok (.invokevirtual 178, 3) := by decide +kernel
theorem dR_notarise_19 : decode prog_8_method_32_code 19 = .ok (.iastore, 1) := by decide +kernel
theorem dR_notarise_20 : decode prog_8_method_32_code 20 = .ok (.iconst 0, 1) := by decide +kernel
theorem dR_notarise_21 : decode prog_8_method_32_code 21 = .ok (.istore_n 2, 1) := by decide +kernel
theorem dR_notarise_22 : decode prog_8_method_32_code 22 = .ok (.iload_n 2, 1) := by decide +kernel
theorem dR_notarise_23 : decode prog_8_method_32_code 23 = .ok (.aload_n 0, 1) := by decide +kernel
theorem dR_notarise_24 : decode prog_8_method_32_code 24 = .ok (.getfield 35, 3) := by decide +kernel
theorem dR_notarise_27 : decode prog_8_method_32_code 27 = .ok (.iload_n 1, 1) := by decide +kernel
theorem dR_notarise_28 : decode prog_8_method_32_code 28 = .ok (.iaload, 1) := by decide +kernel
theorem dR_notarise_29 : decode prog_8_method_32_code 29 = .ok (.if_icmp .ge 35, 3) := by decide +kernel
theorem dR_notarise_32 : decode prog_8_method_32_code 32 = .ok (.aload_n 0, 1) := by decide +kernel
theorem dR_notarise_33 : decode prog_8_method_32_code 33 = .ok (.getfield 32, 3) := by decide +kernel
theorem dR_notarise_36 : decode prog_8_method_32_code 36 = .ok (.iload_n 1, 1) := by decide +kernel
theorem dR_notarise_37 : decode prog_8_method_32_code 37 = .ok (.iaload, 1) := by decide +kernel
theorem dR_notarise_38 : decode prog_8_method_32_code 38 = .ok (.iconst 1, 1) := by decide +kernel
theorem dR_notarise_39 : decode prog_8_method_32_code 39 = .ok (.if_icmp .ne 25, 3) := by decide +kernel
theorem dR_notarise_42 : decode prog_8_method_32_code 42 = .ok (.aload_n 0, 1) := by decide +kernel
theorem dR_notarise_43 : decode prog_8_method_32_code 43 = .ok (.getfield 59, 3) := by decide +kernel
theorem dR_notarise_46 : decode prog_8_method_32_code 46 = .ok (.aload_n 0, 1) := by decide +kernel
theorem dR_notarise_47 : decode prog_8_method_32_code 47 = .ok (.getfield 41, 3) := by decide +kernel
theorem dR_notarise_50 : decode prog_8_method_32_code 50 = .ok (.iconst 4, 1) := by decide +kernel
theorem dR_notarise_51 : decode prog_8_method_32_code 51 = .ok (.iload_n 1, 1) := by decide +kernel
theorem dR_notarise_52 : decode prog_8_method_32_code 52 = .ok (.imul, 1) := by decide +kernel
theorem dR_notarise_53 : decode prog_8_method_32_code 53 = .ok (.iload_n 2, 1) := by decide +kernel
theorem dR_notarise_54 : decode prog_8_method_32_code 54 = .ok (.iadd, 1) := by decide +kernel
theorem dR_notarise_55 : decode prog_8_method_32_code 55 = .ok (.iaload, 1) := by decide +kernel
theorem dR_notarise_56 : decode prog_8_method_32_code 56 = .ok (.iload_n 1, 1) := by decide +kernel
theorem dR_notarise_57 : decode prog_8_method_32_code 57 = .ok (.iastore, 1) := by decide +kernel
theorem dR_notarise_58 : decode prog_8_method_32_code 58 = .ok (.iinc 2 1, 3) := by decide +kernel
theorem dR_notarise_61 : decode prog_8_method_32_code 61 = .ok (.goto (-39), 3) := by decide +kernel
theorem dR_notarise_64 : decode prog_8_method_32_code 64 = .ok (.aload_n 0, 1) := by decide +kernel
theorem dR_notarise_65 : decode prog_8_method_32_code 65 = .ok (.iconst 3, 1) := by decide +kernel
theorem dR_notarise_66 : decode prog_8_method_32_code 66 = .ok (.aload_n 0, 1) := by decide +kernel
theorem dR_notarise_67 : decode prog_8_method_32_code 67 = .ok (.getfield 13, 3) := by decide +kernel
theorem dR_notarise_70 : decode prog_8_method_32_code 70 = .ok (.iload_n 1, 1) := by decide +kernel
theorem dR_notarise_71 : decode prog_8_method_32_code 71 = .ok (.iaload, 1) := by decide +kernel
theorem dR_notarise_72 : decode prog_8_method_32_code 72 = .ok (.aload_n 0, 1) := by decide +kernel
theorem dR_notarise_73 : decode prog_8_method_32_code 73 = .ok (.getfield 7, 3) := by decide +kernel
theorem dR_notarise_76 : decode prog_8_method_32_code 76 = .ok (.iload_n 1, 1) := by decide +kernel
theorem dR_notarise_77 : decode prog_8_method_32_code 77 = .ok (.iaload, 1) := by decide +kernel
theorem dR_notarise_78 : decode prog_8_method_32_code 78 = .ok (.iload_n 1, 1) := by decide +kernel
theorem dR_notarise_79 : decode prog_8_method_32_code 79 = .ok (.aload_n 0, 1) := by decide +kernel
theorem dR_notarise_80 : decode prog_8_method_32_code 80 = .ok (.getfield 32, 3) := by decide +kernel
theorem dR_notarise_83 : decode prog_8_method_32_code 83 = .ok (.iload_n 1, 1) := by decide +kernel
theorem dR_notarise_84 : decode prog_8_method_32_code 84 = .ok (.iaload, 1) := by decide +kernel
theorem dR_notarise_85 : decode prog_8_method_32_code 85 = .ok (.invokevirtual 146, 3) := by decide +kernel
theorem dR_notarise_88 : decode prog_8_method_32_code 88 = .ok (.pop, 1) := by decide +kernel
theorem dR_notarise_89 : decode prog_8_method_32_code 89 = .ok (.return_, 1) := by decide +kernel
theorem dR_judge_0 : decode prog_8_method_31_code 0 = .ok (.aload_n 0, 1) := by decide +kernel
theorem dR_judge_1 : decode prog_8_method_31_code 1 = .ok (.getfield 172, 3) := by decide +kernel
theorem dR_judge_4 : decode prog_8_method_31_code 4 = .ok (.aload_n 0, 1) := by decide +kernel
theorem dR_judge_5 : decode prog_8_method_31_code 5 = .ok (.getfield 16, 3) := by decide +kernel
theorem dR_judge_8 : decode prog_8_method_31_code 8 = .ok (.iload_n 1, 1) := by decide +kernel
theorem dR_judge_9 : decode prog_8_method_31_code 9 = .ok (.iaload, 1) := by decide +kernel
theorem dR_judge_10 : decode prog_8_method_31_code 10 = .ok (.if_icmp .lt 16, 3) := by decide +kernel
theorem dR_judge_13 : decode prog_8_method_31_code 13 = .ok (.aload_n 0, 1) := by decide +kernel
theorem dR_judge_14 : decode prog_8_method_31_code 14 = .ok (.getfield 172, 3) := by decide +kernel
theorem dR_judge_17 : decode prog_8_method_31_code 17 = .ok (.aload_n 0, 1) := by decide +kernel
theorem dR_judge_18 : decode prog_8_method_31_code 18 = .ok (.getfield 19, 3) := by decide +kernel
theorem dR_judge_21 : decode prog_8_method_31_code 21 = .ok (.iload_n 1, 1) := by decide +kernel
theorem dR_judge_22 : decode prog_8_method_31_code 22 = .ok (.iaload, 1) := by decide +kernel
theorem dR_judge_23 : decode prog_8_method_31_code 23 = .ok (.if_icmp .lt 5, 3) := by decide +kernel
theorem dR_judge_26 : decode prog_8_method_31_code 26 = .ok (.iconst 2, 1) := by decide +kernel
theorem dR_judge_27 : decode prog_8_method_31_code 27 = .ok (.ireturn, 1) := by decide +kernel
theorem dR_judge_28 : decode prog_8_method_31_code 28 = .ok (.aload_n 0, 1) := by decide +kernel
theorem dR_judge_29 : decode prog_8_method_31_code 29 = .ok (.getfield 13, 3) := by decide +kernel
theorem dR_judge_32 : decode prog_8_method_31_code 32 = .ok (.iload_n 1, 1) := by decide +kernel
theorem dR_judge_33 : decode prog_8_method_31_code 33 = .ok (.iaload, 1) := by decide +kernel
theorem dR_judge_34 : decode prog_8_method_31_code 34 = .ok (.iconst 4, 1) := by decide +kernel
theorem dR_judge_35 : decode prog_8_method_31_code 35 = .ok (.if_icmp .ne 13, 3) := by decide +kernel
theorem dR_judge_38 : decode prog_8_method_31_code 38 = .ok (.aload_n 0, 1) := by decide +kernel
theorem dR_judge_39 : decode prog_8_method_31_code 39 = .ok (.iload_n 1, 1) := by decide +kernel
theorem dR_judge_40 : decode prog_8_method_31_code 40 = .ok (.invokevirtual 175, 3) := by decide +kernel
theorem dR_judge_43 : decode prog_8_method_31_code 43 = .ok (.ifCond .ne 5, 3) := by decide +kernel
theorem dR_judge_46 : decode prog_8_method_31_code 46 = .ok (.iconst 3, 1) := by decide +kernel
theorem dR_judge_47 : decode prog_8_method_31_code 47 = .ok (.ireturn, 1) := by decide +kernel
theorem dR_judge_48 : decode prog_8_method_31_code 48 = .ok (.iconst 0, 1) := by decide +kernel
theorem dR_judge_49 : decode prog_8_method_31_code 49 = .ok (.istore_n 2, 1) := by decide +kernel
theorem dR_judge_50 : decode prog_8_method_31_code 50 = .ok (.iload_n 2, 1) := by decide +kernel
theorem dR_judge_51 : decode prog_8_method_31_code 51 = .ok (.aload_n 0, 1) := by decide +kernel
theorem dR_judge_52 : decode prog_8_method_31_code 52 = .ok (.getfield 35, 3) := by decide +kernel
theorem dR_judge_55 : decode prog_8_method_31_code 55 = .ok (.iload_n 1, 1) := by decide +kernel
theorem dR_judge_56 : decode prog_8_method_31_code 56 = .ok (.iaload, 1) := by decide +kernel
theorem dR_judge_57 : decode prog_8_method_31_code 57 = .ok (.if_icmp .ge 29, 3) := by decide +kernel
theorem dR_judge_60 : decode prog_8_method_31_code 60 = .ok (.aload_n 0, 1) := by decide +kernel
theorem dR_judge_61 : decode prog_8_method_31_code 61 = .ok (.getfield 59, 3) := by decide +kernel
theorem dR_judge_64 : decode prog_8_method_31_code 64 = .ok (.aload_n 0, 1) := by decide +kernel
theorem dR_judge_65 : decode prog_8_method_31_code 65 = .ok (.getfield 41, 3) := by decide +kernel
theorem dR_judge_68 : decode prog_8_method_31_code 68 = .ok (.iconst 4, 1) := by decide +kernel
theorem dR_judge_69 : decode prog_8_method_31_code 69 = .ok (.iload_n 1, 1) := by decide +kernel
theorem dR_judge_70 : decode prog_8_method_31_code 70 = .ok (.imul, 1) := by decide +kernel
theorem dR_judge_71 : decode prog_8_method_31_code 71 = .ok (.iload_n 2, 1) := by decide +kernel
theorem dR_judge_72 : decode prog_8_method_31_code 72 = .ok (.iadd, 1) := by decide +kernel
theorem dR_judge_73 : decode prog_8_method_31_code 73 = .ok (.iaload, 1) := by decide +kernel
theorem dR_judge_74 : decode prog_8_method_31_code 74 = .ok (.iaload, 1) := by decide +kernel
theorem dR_judge_75 : decode prog_8_method_31_code 75 = .ok (.ifCond .lt 5, 3) := by decide +kernel
theorem dR_judge_78 : decode prog_8_method_31_code 78 = .ok (.iconst 4, 1) := by decide +kernel
theorem dR_judge_79 : decode prog_8_method_31_code 79 = .ok (.ireturn, 1) := by decide +kernel
theorem dR_judge_80 : decode prog_8_method_31_code 80 = .ok (.iinc 2 1, 3) := by decide +kernel
theorem dR_judge_83 : decode prog_8_method_31_code 83 = .ok (.goto (-33), 3) := by decide +kernel
theorem dR_judge_86 : decode prog_8_method_31_code 86 = .ok (.iconst 1, 1) := by decide +kernel
theorem dR_judge_87 : decode prog_8_method_31_code 87 = .ok (.ireturn, 1) := by decide +kernel
theorem dR_sound_0 : decode prog_8_method_24_code 0 = .ok (.aload_n 0, 1) := by decide +kernel
theorem dR_sound_1 : decode prog_8_method_24_code 1 = .ok (.iload_n 1, 1) := by decide +kernel
theorem dR_sound_2 : decode prog_8_method_24_code 2 = .ok (.invokevirtual 137, 3) := by decide +kernel
theorem dR_sound_5 : decode prog_8_method_24_code 5 = .ok (.ifCond .eq 24, 3) := by decide +kernel
theorem dR_sound_8 : decode prog_8_method_24_code 8 = .ok (.aload_n 0, 1) := by decide +kernel
theorem dR_sound_9 : decode prog_8_method_24_code 9 = .ok (.getfield 25, 3) := by decide +kernel
theorem dR_sound_12 : decode prog_8_method_24_code 12 = .ok (.iload_n 1, 1) := by decide +kernel
theorem dR_sound_13 : decode prog_8_method_24_code 13 = .ok (.baload, 1) := by decide +kernel
theorem dR_sound_14 : decode prog_8_method_24_code 14 = .ok (.ifCond .eq 11, 3) := by decide +kernel
theorem dR_sound_17 : decode prog_8_method_24_code 17 = .ok (.aload_n 0, 1) := by decide +kernel
theorem dR_sound_18 : decode prog_8_method_24_code 18 = .ok (.iload_n 1, 1) := by decide +kernel
theorem dR_sound_19 : decode prog_8_method_24_code 19 = .ok (.invokevirtual 140, 3) := by decide +kernel
theorem dR_sound_22 : decode prog_8_method_24_code 22 = .ok (.ifCond .eq 7, 3) := by decide +kernel
theorem dR_sound_25 : decode prog_8_method_24_code 25 = .ok (.iconst 1, 1) := by decide +kernel
theorem dR_sound_26 : decode prog_8_method_24_code 26 = .ok (.goto 4, 3) := by decide +kernel
theorem dR_sound_29 : decode prog_8_method_24_code 29 = .ok (.iconst 0, 1) := by decide +kernel
theorem dR_sound_30 : decode prog_8_method_24_code 30 = .ok (.ireturn, 1) := by decide +kernel
theorem dR_hear_0 : decode prog_8_method_34_code 0 = .ok (.aload_n 0, 1) := by decide +kernel
theorem dR_hear_1 : decode prog_8_method_34_code 1 = .ok (.getfield 22, 3) := by decide +kernel
theorem dR_hear_4 : decode prog_8_method_34_code 4 = .ok (.iload_n 1, 1) := by decide +kernel
theorem dR_hear_5 : decode prog_8_method_34_code 5 = .ok (.iaload, 1) := by decide +kernel
theorem dR_hear_6 : decode prog_8_method_34_code 6 = .ok (.iconst 1, 1) := by decide +kernel
theorem dR_hear_7 : decode prog_8_method_34_code 7 = .ok (.if_icmp .ne 5, 3) := by decide +kernel
theorem dR_hear_10 : decode prog_8_method_34_code 10 = .ok (.iconst 0, 1) := by decide +kernel
theorem dR_hear_11 : decode prog_8_method_34_code 11 = .ok (.ireturn, 1) := by decide +kernel
theorem dR_hear_12 : decode prog_8_method_34_code 12 = .ok (.aload_n 0, 1) := by decide +kernel
theorem dR_hear_13 : decode prog_8_method_34_code 13 = .ok (.getfield 22, 3) := by decide +kernel
theorem dR_hear_16 : decode prog_8_method_34_code 16 = .ok (.iload_n 1, 1) := by decide +kernel
theorem dR_hear_17 : decode prog_8_method_34_code 17 = .ok (.iaload, 1) := by decide +kernel
theorem dR_hear_18 : decode prog_8_method_34_code 18 = .ok (.iconst 2, 1) := by decide +kernel
theorem dR_hear_19 : decode prog_8_method_34_code 19 = .ok (.if_icmp .eq 5, 3) := by decide +kernel
theorem dR_hear_22 : decode prog_8_method_34_code 22 = .ok (.iconst 1, 1) := by decide +kernel
theorem dR_hear_23 : decode prog_8_method_34_code 23 = .ok (.ireturn, 1) := by decide +kernel
theorem dR_hear_24 : decode prog_8_method_34_code 24 = .ok (.aload_n 0, 1) := by decide +kernel
theorem dR_hear_25 : decode prog_8_method_34_code 25 = .ok (.iload_n 1, 1) := by decide +kernel
theorem dR_hear_26 : decode prog_8_method_34_code 26 = .ok (.invokevirtual 175, 3) := by decide +kernel
theorem dR_hear_29 : decode prog_8_method_34_code 29 = .ok (.istore 4, 2) := by decide +kernel
theorem dR_hear_31 : decode prog_8_method_34_code 31 = .ok (.iconst 0, 1) := by decide +kernel
theorem dR_hear_32 : decode prog_8_method_34_code 32 = .ok (.istore 5, 2) := by decide +kernel
theorem dR_hear_34 : decode prog_8_method_34_code 34 = .ok (.iload 5, 2) := by decide +kernel
theorem dR_hear_36 : decode prog_8_method_34_code 36 = .ok (.iconst 4, 1) := by decide +kernel
theorem dR_hear_37 : decode prog_8_method_34_code 37 = .ok (.if_icmp .ge 40, 3) := by decide +kernel
theorem dR_hear_40 : decode prog_8_method_34_code 40 = .ok (.iload_n 2, 1) := by decide +kernel
theorem dR_hear_41 : decode prog_8_method_34_code 41 = .ok (.iconst 1, 1) := by decide +kernel
theorem dR_hear_42 : decode prog_8_method_34_code 42 = .ok (.if_icmp .ne 35, 3) := by decide +kernel
theorem dR_hear_45 : decode prog_8_method_34_code 45 = .ok (.aload_n 0, 1) := by decide +kernel
theorem dR_hear_46 : decode prog_8_method_34_code 46 = .ok (.iload_n 1, 1) := by decide +kernel
theorem dR_hear_47 : decode prog_8_method_34_code 47 = .ok (.iload 5, 2) := by decide +kernel
theorem dR_hear_49 : decode prog_8_method_34_code 49 = .ok (.invokevirtual 181, 3) := by decide +kernel
theorem dR_hear_52 : decode prog_8_method_34_code 52 = .ok (.ifCond .eq 19, 3) := by decide +kernel
theorem dR_hear_55 : decode prog_8_method_34_code 55 = .ok (.aload_n 0, 1) := by decide +kernel
theorem dR_hear_56 : decode prog_8_method_34_code 56 = .ok (.iconst 4, 1) := by decide +kernel
theorem dR_hear_57 : decode prog_8_method_34_code 57 = .ok (.aload_n 0, 1) := by decide +kernel
theorem dR_hear_58 : decode prog_8_method_34_code 58 = .ok (.getfield 7, 3) := by decide +kernel
theorem dR_hear_61 : decode prog_8_method_34_code 61 = .ok (.iload_n 1, 1) := by decide +kernel
theorem dR_hear_62 : decode prog_8_method_34_code 62 = .ok (.iaload, 1) := by decide +kernel
theorem dR_hear_63 : decode prog_8_method_34_code 63 = .ok (.iload 5, 2) := by decide +kernel
theorem dR_hear_65 : decode prog_8_method_34_code 65 = .ok (.iload_n 1, 1) := by decide +kernel
theorem dR_hear_66 : decode prog_8_method_34_code 66 = .ok (.iconst 0, 1) := by decide +kernel
theorem dR_hear_67 : decode prog_8_method_34_code 67 = .ok (.invokevirtual 146, 3) := by decide +kernel
theorem dR_hear_70 : decode prog_8_method_34_code 70 = .ok (.pop, 1) := by decide +kernel
theorem dR_hear_71 : decode prog_8_method_34_code 71 = .ok (.iinc 5 1, 3) := by decide +kernel
theorem dR_hear_74 : decode prog_8_method_34_code 74 = .ok (.goto (-40), 3) := by decide +kernel
theorem dR_hear_77 : decode prog_8_method_34_code 77 = .ok (.iload_n 3, 1) := by decide +kernel
theorem dR_hear_78 : decode prog_8_method_34_code 78 = .ok (.ifCond .eq 5, 3) := by decide +kernel
theorem dR_hear_81 : decode prog_8_method_34_code 81 = .ok (.iconst 2, 1) := by decide +kernel
theorem dR_hear_82 : decode prog_8_method_34_code 82 = .ok (.ireturn, 1) := by decide +kernel
theorem dR_hear_83 : decode prog_8_method_34_code 83 = .ok (.aload_n 0, 1) := by decide +kernel
theorem dR_hear_84 : decode prog_8_method_34_code 84 = .ok (.getfield 22, 3) := by decide +kernel
theorem dR_hear_87 : decode prog_8_method_34_code 87 = .ok (.iload_n 1, 1) := by decide +kernel
theorem dR_hear_88 : decode prog_8_method_34_code 88 = .ok (.iload_n 2, 1) := by decide +kernel
theorem dR_hear_89 : decode prog_8_method_34_code 89 = .ok (.iconst 1, 1) := by decide +kernel
theorem dR_hear_90 : decode prog_8_method_34_code 90 = .ok (.if_icmp .ne 17, 3) := by decide +kernel
theorem dR_hear_93 : decode prog_8_method_34_code 93 = .ok (.iload 4, 2) := by decide +kernel
theorem dR_hear_95 : decode prog_8_method_34_code 95 = .ok (.ifCond .eq 7, 3) := by decide +kernel
theorem dR_hear_98 : decode prog_8_method_34_code 98 = .ok (.iconst 3, 1) := by decide +kernel
theorem dR_hear_99 : decode prog_8_method_34_code 99 = .ok (.goto 11, 3) := by decide +kernel
theorem dR_hear_102 : decode prog_8_method_34_code 102 = .ok (.bipush 8, 2) := by decide +kernel
theorem dR_hear_104 : decode prog_8_method_34_code 104 = .ok (.goto 6, 3) := by decide +kernel
theorem dR_hear_107 : decode prog_8_method_34_code 107 = .ok (.iconst 3, 1) := by decide +kernel
theorem dR_hear_108 : decode prog_8_method_34_code 108 = .ok (.iload_n 2, 1) := by decide +kernel
theorem dR_hear_109 : decode prog_8_method_34_code 109 = .ok (.iadd, 1) := by decide +kernel
theorem dR_hear_110 : decode prog_8_method_34_code 110 = .ok (.iastore, 1) := by decide +kernel
theorem dR_hear_111 : decode prog_8_method_34_code 111 = .ok (.iload_n 2, 1) := by decide +kernel
theorem dR_hear_112 : decode prog_8_method_34_code 112 = .ok (.iconst 1, 1) := by decide +kernel
theorem dR_hear_113 : decode prog_8_method_34_code 113 = .ok (.if_icmp .ne 25, 3) := by decide +kernel
theorem dR_hear_116 : decode prog_8_method_34_code 116 = .ok (.iload 4, 2) := by decide +kernel
theorem dR_hear_118 : decode prog_8_method_34_code 118 = .ok (.ifCond .eq 20, 3) := by decide +kernel
theorem dR_hear_121 : decode prog_8_method_34_code 121 = .ok (.aload_n 0, 1) := by decide +kernel
theorem dR_hear_122 : decode prog_8_method_34_code 122 = .ok (.getfield 62, 3) := by decide +kernel
theorem dR_hear_125 : decode prog_8_method_34_code 125 = .ok (.bipush 20, 2) := by decide +kernel
theorem dR_hear_127 : decode prog_8_method_34_code 127 = .ok (.aload_n 0, 1) := by decide +kernel
theorem dR_hear_128 : decode prog_8_method_34_code 128 = .ok (.getfield 7, 3) := by decide +kernel
theorem dR_hear_131 : decode prog_8_method_34_code 131 = .ok (.iload_n 1, 1) := by decide +kernel
theorem dR_hear_132 : decode prog_8_method_34_code 132 = .ok (.iaload, 1) := by decide +kernel
theorem dR_hear_133 : decode prog_8_method_34_code 133 = .ok (.imul, 1) := by decide +kernel
theorem dR_hear_134 : decode prog_8_method_34_code 134 = .ok (.iload_n 1, 1) := by decide +kernel
theorem dR_hear_135 : decode prog_8_method_34_code 135 = .ok (.iadd, 1) := by decide +kernel
theorem dR_hear_136 : decode prog_8_method_34_code 136 = .ok (.iconst 2, 1) := by decide +kernel
theorem dR_hear_137 : decode prog_8_method_34_code 137 = .ok (.iastore, 1) := by decide +kernel
theorem dR_hear_138 : decode prog_8_method_34_code 138 = .ok (.iconst 2, 1) := by decide +kernel
theorem dR_hear_139 : decode prog_8_method_34_code 139 = .ok (.ireturn, 1) := by decide +kernel
theorem dR_told_0 : decode prog_8_method_33_code 0 = .ok (.aload_n 0, 1) := by decide +kernel
theorem dR_told_1 : decode prog_8_method_33_code 1 = .ok (.iload_n 1, 1) := by decide +kernel
theorem dR_told_2 : decode prog_8_method_33_code 2 = .ok (.iload_n 2, 1) := by decide +kernel
theorem dR_told_3 : decode prog_8_method_33_code 3 = .ok (.invokevirtual 130, 3) := by decide +kernel
theorem dR_told_6 : decode prog_8_method_33_code 6 = .ok (.istore_n 3, 1) := by decide +kernel
theorem dR_told_7 : decode prog_8_method_33_code 7 = .ok (.iconst 0, 1) := by decide +kernel
theorem dR_told_8 : decode prog_8_method_33_code 8 = .ok (.istore 4, 2) := by decide +kernel
theorem dR_told_10 : decode prog_8_method_33_code 10 = .ok (.iload 4, 2) := by decide +kernel
theorem dR_told_12 : decode prog_8_method_33_code 12 = .ok (.aload_n 0, 1) := by decide +kernel
theorem dR_told_13 : decode prog_8_method_33_code 13 = .ok (.getfield 38, 3) := by decide +kernel
theorem dR_told_16 : decode prog_8_method_33_code 16 = .ok (.iload_n 1, 1) := by decide +kernel
theorem dR_told_17 : decode prog_8_method_33_code 17 = .ok (.iaload, 1) := by decide +kernel
theorem dR_told_18 : decode prog_8_method_33_code 18 = .ok (.if_icmp .ge 33, 3) := by decide +kernel
theorem dR_told_21 : decode prog_8_method_33_code 21 = .ok (.iload_n 3, 1) := by decide +kernel
theorem dR_told_22 : decode prog_8_method_33_code 22 = .ok (.ifCond .ne 17, 3) := by decide +kernel
theorem dR_told_25 : decode prog_8_method_33_code 25 = .ok (.aload_n 0, 1) := by decide +kernel
theorem dR_told_26 : decode prog_8_method_33_code 26 = .ok (.iconst 4, 1) := by decide +kernel
theorem dR_told_27 : decode prog_8_method_33_code 27 = .ok (.iload_n 1, 1) := by decide +kernel
theorem dR_told_28 : decode prog_8_method_33_code 28 = .ok (.imul, 1) := by decide +kernel
theorem dR_told_29 : decode prog_8_method_33_code 29 = .ok (.iload 4, 2) := by decide +kernel
theorem dR_told_31 : decode prog_8_method_33_code 31 = .ok (.iadd, 1) := by decide +kernel
theorem dR_told_32 : decode prog_8_method_33_code 32 = .ok (.iload_n 2, 1) := by decide +kernel
theorem dR_told_33 : decode prog_8_method_33_code 33 = .ok (.invokevirtual 110, 3) := by decide +kernel
theorem dR_told_36 : decode prog_8_method_33_code 36 = .ok (.ifCond .eq 7, 3) := by decide +kernel
theorem dR_told_39 : decode prog_8_method_33_code 39 = .ok (.iconst 1, 1) := by decide +kernel
theorem dR_told_40 : decode prog_8_method_33_code 40 = .ok (.goto 4, 3) := by decide +kernel
theorem dR_told_43 : decode prog_8_method_33_code 43 = .ok (.iconst 0, 1) := by decide +kernel
theorem dR_told_44 : decode prog_8_method_33_code 44 = .ok (.istore_n 3, 1) := by decide +kernel
theorem dR_told_45 : decode prog_8_method_33_code 45 = .ok (.iinc 4 1, 3) := by decide +kernel
theorem dR_told_48 : decode prog_8_method_33_code 48 = .ok (.goto (-38), 3) := by decide +kernel
theorem dR_told_51 : decode prog_8_method_33_code 51 = .ok (.iload_n 3, 1) := by decide +kernel
theorem dR_told_52 : decode prog_8_method_33_code 52 = .ok (.ifCond .eq 17, 3) := by decide +kernel
theorem dR_told_55 : decode prog_8_method_33_code 55 = .ok (.iload_n 2, 1) := by decide +kernel
theorem dR_told_56 : decode prog_8_method_33_code 56 = .ok (.aload_n 0, 1) := by decide +kernel
theorem dR_told_57 : decode prog_8_method_33_code 57 = .ok (.getfield 7, 3) := by decide +kernel
theorem dR_told_60 : decode prog_8_method_33_code 60 = .ok (.iload_n 1, 1) := by decide +kernel
theorem dR_told_61 : decode prog_8_method_33_code 61 = .ok (.iaload, 1) := by decide +kernel
theorem dR_told_62 : decode prog_8_method_33_code 62 = .ok (.if_icmp .eq 7, 3) := by decide +kernel
theorem dR_told_65 : decode prog_8_method_33_code 65 = .ok (.iconst 1, 1) := by decide +kernel
theorem dR_told_66 : decode prog_8_method_33_code 66 = .ok (.goto 4, 3) := by decide +kernel
theorem dR_told_69 : decode prog_8_method_33_code 69 = .ok (.iconst 0, 1) := by decide +kernel
theorem dR_told_70 : decode prog_8_method_33_code 70 = .ok (.ireturn, 1) := by decide +kernel
theorem dR_close_0 : decode prog_8_method_35_code 0 = .ok (.aload_n 0, 1) := by decide +kernel
theorem dR_close_1 : decode prog_8_method_35_code 1 = .ok (.getfield 62, 3) := by decide +kernel
theorem dR_close_4 : decode prog_8_method_35_code 4 = .ok (.bipush 20, 2) := by decide +kernel
theorem dR_close_6 : decode prog_8_method_35_code 6 = .ok (.iload_n 1, 1) := by decide +kernel
theorem dR_close_7 : decode prog_8_method_35_code 7 = .ok (.imul, 1) := by decide +kernel
theorem dR_close_8 : decode prog_8_method_35_code 8 = .ok (.iload_n 2, 1) := by decide +kernel
theorem dR_close_9 : decode prog_8_method_35_code 9 = .ok (.iadd, 1) := by decide +kernel
theorem dR_close_10 : decode prog_8_method_35_code 10 = .ok (.iaload, 1) := by decide +kernel
theorem dR_close_11 : decode prog_8_method_35_code 11 = .ok (.iconst 2, 1) := by decide +kernel
theorem dR_close_12 : decode prog_8_method_35_code 12 = .ok (.if_icmp .ne 5, 3) := by decide +kernel
theorem dR_close_15 : decode prog_8_method_35_code 15 = .ok (.iconst 1, 1) := by decide +kernel
theorem dR_close_16 : decode prog_8_method_35_code 16 = .ok (.ireturn, 1) := by decide +kernel
theorem dR_close_17 : decode prog_8_method_35_code 17 = .ok (.aload_n 0, 1) := by decide +kernel
theorem dR_close_18 : decode prog_8_method_35_code 18 = .ok (.iload_n 2, 1) := by decide +kernel
theorem dR_close_19 : decode prog_8_method_35_code 19 = .ok (.invokevirtual 175, 3) := by decide +kernel
theorem dR_close_22 : decode prog_8_method_35_code 22 = .ok (.ifCond .ne 5, 3) := by decide +kernel
theorem dR_close_25 : decode prog_8_method_35_code 25 = .ok (.iconst 3, 1) := by decide +kernel
theorem dR_close_26 : decode prog_8_method_35_code 26 = .ok (.ireturn, 1) := by decide +kernel
theorem dR_close_27 : decode prog_8_method_35_code 27 = .ok (.iload_n 3, 1) := by decide +kernel
theorem dR_close_28 : decode prog_8_method_35_code 28 = .ok (.ifCond .eq 5, 3) := by decide +kernel
theorem dR_close_31 : decode prog_8_method_35_code 31 = .ok (.iconst 2, 1) := by decide +kernel
theorem dR_close_32 : decode prog_8_method_35_code 32 = .ok (.ireturn, 1) := by decide +kernel
theorem dR_close_33 : decode prog_8_method_35_code 33 = .ok (.aload_n 0, 1) := by decide +kernel
theorem dR_close_34 : decode prog_8_method_35_code 34 = .ok (.iload_n 1, 1) := by decide +kernel
theorem dR_close_35 : decode prog_8_method_35_code 35 = .ok (.iload_n 2, 1) := by decide +kernel
theorem dR_close_36 : decode prog_8_method_35_code 36 = .ok (.invokevirtual 169, 3) := by decide +kernel
theorem dR_close_39 : decode prog_8_method_35_code 39 = .ok (.aload_n 0, 1) := by decide +kernel
theorem dR_close_40 : decode prog_8_method_35_code 40 = .ok (.getfield 62, 3) := by decide +kernel
theorem dR_close_43 : decode prog_8_method_35_code 43 = .ok (.bipush 20, 2) := by decide +kernel
theorem dR_close_45 : decode prog_8_method_35_code 45 = .ok (.iload_n 1, 1) := by decide +kernel
theorem dR_close_46 : decode prog_8_method_35_code 46 = .ok (.imul, 1) := by decide +kernel
theorem dR_close_47 : decode prog_8_method_35_code 47 = .ok (.iload_n 2, 1) := by decide +kernel
theorem dR_close_48 : decode prog_8_method_35_code 48 = .ok (.iadd, 1) := by decide +kernel
theorem dR_close_49 : decode prog_8_method_35_code 49 = .ok (.iconst 2, 1) := by decide +kernel
theorem dR_close_50 : decode prog_8_method_35_code 50 = .ok (.iastore, 1) := by decide +kernel
theorem dR_close_51 : decode prog_8_method_35_code 51 = .ok (.iconst 2, 1) := by decide +kernel
theorem dR_close_52 : decode prog_8_method_35_code 52 = .ok (.ireturn, 1) := by decide +kernel
theorem dR_message_0 : decode prog_8_method_36_code 0 = .ok (.iload_n 1, 1) := by decide +kernel
theorem dR_message_1 : decode prog_8_method_36_code 1 = .ok (.iconst (-1), 1) := by decide +kernel
theorem dR_message_2 : decode prog_8_method_36_code 2 = .ok (.if_icmp .ne 10, 3) := by decide +kernel
theorem dR_message_5 : decode prog_8_method_36_code 5 = .ok (.aload_n 0, 1) := by decide +kernel
theorem dR_message_6 : decode prog_8_method_36_code 6 = .ok (.getfield 143, 3) := by decide +kernel
theorem dR_message_9 : decode prog_8_method_36_code 9 = .ok (.goto 25, 3) := by decide +kernel
theorem dR_message_12 : decode prog_8_method_36_code 12 = .ok (.iload_n 1, 1) := by decide +kernel
theorem dR_message_13 : decode prog_8_method_36_code 13 = .ok (.ifCond .lt 11, 3) := by decide +kernel
theorem dR_message_16 : decode prog_8_method_36_code 16 = .ok (.iload_n 1, 1) := by decide +kernel
theorem dR_message_17 : decode prog_8_method_36_code 17 = .ok (.aload_n 0, 1) := by decide +kernel
theorem dR_message_18 : decode prog_8_method_36_code 18 = .ok (.getfield 143, 3) := by decide +kernel
theorem dR_message_21 : decode prog_8_method_36_code 21 = .ok (.if_icmp .lt 7, 3) := by decide +kernel
theorem dR_message_24 : decode prog_8_method_36_code 24 = .ok (.iconst (-1), 1) := by decide +kernel
theorem dR_message_25 : decode prog_8_method_36_code 25 = .ok (.goto 9, 3) := by decide +kernel
theorem dR_message_28 : decode prog_8_method_36_code 28 = .ok (.aload_n 0, 1) := by decide +kernel
theorem dR_message_29 : decode prog_8_method_36_code 29 = .ok (.getfield 74, 3) := by decide +kernel
theorem dR_message_32 : decode prog_8_method_36_code 32 = .ok (.iload_n 1, 1) := by decide +kernel
theorem dR_message_33 : decode prog_8_method_36_code 33 = .ok (.iaload, 1) := by decide +kernel
theorem dR_message_34 : decode prog_8_method_36_code 34 = .ok (.ireturn, 1) := by decide +kernel
theorem dR_tick_0 : decode prog_8_method_37_code 0 = .ok (.iload_n 1, 1) := by decide +kernel
theorem dR_tick_1 : decode prog_8_method_37_code 1 = .ok (.ifCond .lt 20, 3) := by decide +kernel
theorem dR_tick_4 : decode prog_8_method_37_code 4 = .ok (.iload_n 1, 1) := by decide +kernel
theorem dR_tick_5 : decode prog_8_method_37_code 5 = .ok (.sipush 1000, 3) := by decide +kernel
theorem dR_tick_8 : decode prog_8_method_37_code 8 = .ok (.if_icmp .gt 13, 3) := by decide +kernel
theorem dR_tick_11 : decode prog_8_method_37_code 11 = .ok (.aload_n 0, 1) := by decide +kernel
theorem dR_tick_12 : decode prog_8_method_37_code 12 = .ok (.dup, 1) := by decide +kernel
theorem dR_tick_13 : decode prog_8_method_37_code 13 = .ok (.getfield 172, 3) := by decide +kernel
theorem dR_tick_16 : decode prog_8_method_37_code 16 = .ok (.iload_n 1, 1) := by decide +kernel
theorem dR_tick_17 : decode prog_8_method_37_code 17 = .ok (.iadd, 1) := by decide +kernel
theorem dR_tick_18 : decode prog_8_method_37_code 18 = .ok (.putfield 172, 3) := by decide +kernel
theorem dR_tick_21 : decode prog_8_method_37_code 21 = .ok (.aload_n 0, 1) := by decide +kernel
theorem dR_tick_22 : decode prog_8_method_37_code 22 = .ok (.getfield 172, 3) := by decide +kernel
theorem dR_tick_25 : decode prog_8_method_37_code 25 = .ok (.ireturn, 1) := by decide +kernel
theorem dR_consent_0 : decode prog_8_method_38_code 0 = .ok (.aload_n 0, 1) := by decide +kernel
theorem dR_consent_1 : decode prog_8_method_38_code 1 = .ok (.iload_n 1, 1) := by decide +kernel
theorem dR_consent_2 : decode prog_8_method_38_code 2 = .ok (.invokevirtual 91, 3) := by decide +kernel
theorem dR_consent_5 : decode prog_8_method_38_code 5 = .ok (.ifCond .eq 16, 3) := by decide +kernel
theorem dR_consent_8 : decode prog_8_method_38_code 8 = .ok (.aload_n 0, 1) := by decide +kernel
theorem dR_consent_9 : decode prog_8_method_38_code 9 = .ok (.iload_n 2, 1) := by decide +kernel
theorem dR_consent_10 : decode prog_8_method_38_code 10 = .ok (.invokevirtual 91, 3) := by decide +kernel
theorem dR_consent_13 : decode prog_8_method_38_code 13 = .ok (.ifCond .eq 8, 3) := by decide +kernel
theorem dR_consent_16 : decode prog_8_method_38_code 16 = .ok (.iload_n 1, 1) := by decide +kernel
theorem dR_consent_17 : decode prog_8_method_38_code 17 = .ok (.iload_n 2, 1) := by decide +kernel
theorem dR_consent_18 : decode prog_8_method_38_code 18 = .ok (.if_icmp .ne 5, 3) := by decide +kernel
theorem dR_consent_21 : decode prog_8_method_38_code 21 = .ok (.iconst 0, 1) := by decide +kernel
theorem dR_consent_22 : decode prog_8_method_38_code 22 = .ok (.ireturn, 1) := by decide +kernel
theorem dR_consent_23 : decode prog_8_method_38_code 23 = .ok (.aload_n 0, 1) := by decide +kernel
theorem dR_consent_24 : decode prog_8_method_38_code 24 = .ok (.getfield 71, 3) := by decide +kernel
theorem dR_consent_27 : decode prog_8_method_38_code 27 = .ok (.iconst 4, 1) := by decide +kernel
theorem dR_consent_28 : decode prog_8_method_38_code 28 = .ok (.iload_n 1, 1) := by decide +kernel
theorem dR_consent_29 : decode prog_8_method_38_code 29 = .ok (.imul, 1) := by decide +kernel
theorem dR_consent_30 : decode prog_8_method_38_code 30 = .ok (.iload_n 2, 1) := by decide +kernel
theorem dR_consent_31 : decode prog_8_method_38_code 31 = .ok (.iadd, 1) := by decide +kernel
theorem dR_consent_32 : decode prog_8_method_38_code 32 = .ok (.iload_n 3, 1) := by decide +kernel
theorem dR_consent_33 : decode prog_8_method_38_code 33 = .ok (.ifCond .ne 7, 3) := by decide +kernel
theorem dR_consent_36 : decode prog_8_method_38_code 36 = .ok (.iconst 1, 1) := by decide +kernel
theorem dR_consent_37 : decode prog_8_method_38_code 37 = .ok (.goto 4, 3) := by decide +kernel
theorem dR_consent_40 : decode prog_8_method_38_code 40 = .ok (.iconst 0, 1) := by decide +kernel
theorem dR_consent_41 : decode prog_8_method_38_code 41 = .ok (.bastore, 1) := by decide +kernel
theorem dR_consent_42 : decode prog_8_method_38_code 42 = .ok (.iconst 1, 1) := by decide +kernel
theorem dR_consent_43 : decode prog_8_method_38_code 43 = .ok (.ireturn, 1) := by decide +kernel
theorem dR_stage_0 : decode prog_8_method_39_code 0 = .ok (.aload_n 0, 1) := by decide +kernel
theorem dR_stage_1 : decode prog_8_method_39_code 1 = .ok (.iload_n 1, 1) := by decide +kernel
theorem dR_stage_2 : decode prog_8_method_39_code 2 = .ok (.invokevirtual 87, 3) := by decide +kernel
theorem dR_stage_5 : decode prog_8_method_39_code 5 = .ok (.ifCond .eq 12, 3) := by decide +kernel
theorem dR_stage_8 : decode prog_8_method_39_code 8 = .ok (.aload_n 0, 1) := by decide +kernel
theorem dR_stage_9 : decode prog_8_method_39_code 9 = .ok (.getfield 22, 3) := by decide +kernel
theorem dR_stage_12 : decode prog_8_method_39_code 12 = .ok (.iload_n 1, 1) := by decide +kernel
theorem dR_stage_13 : decode prog_8_method_39_code 13 = .ok (.iaload, 1) := by decide +kernel
theorem dR_stage_14 : decode prog_8_method_39_code 14 = .ok (.goto 4, 3) := by decide +kernel
theorem dR_stage_17 : decode prog_8_method_39_code 17 = .ok (.iconst (-1), 1) := by decide +kernel
theorem dR_stage_18 : decode prog_8_method_39_code 18 = .ok (.ireturn, 1) := by decide +kernel
theorem dR_signatures_0 : decode prog_8_method_40_code 0 = .ok (.aload_n 0, 1) := by decide +kernel
theorem dR_signatures_1 : decode prog_8_method_40_code 1 = .ok (.iload_n 1, 1) := by decide +kernel
theorem dR_signatures_2 : decode prog_8_method_40_code 2 = .ok (.invokevirtual 87, 3) := by decide +kernel
theorem dR_signatures_5 : decode prog_8_method_40_code 5 = .ok (.ifCond .ne 7, 3) := by decide +kernel
theorem dR_signatures_8 : decode prog_8_method_40_code 8 = .ok (.iconst (-1), 1) := by decide +kernel
theorem dR_signatures_9 : decode prog_8_method_40_code 9 = .ok (.goto 21, 3) := by decide +kernel
theorem dR_signatures_12 : decode prog_8_method_40_code 12 = .ok (.iload_n 2, 1) := by decide +kernel
theorem dR_signatures_13 : decode prog_8_method_40_code 13 = .ok (.ifCond .eq 11, 3) := by decide +kernel
theorem dR_signatures_16 : decode prog_8_method_40_code 16 = .ok (.aload_n 0, 1) := by decide +kernel
theorem dR_signatures_17 : decode prog_8_method_40_code 17 = .ok (.iload_n 1, 1) := by decide +kernel
theorem dR_signatures_18 : decode prog_8_method_40_code 18 = .ok (.invokevirtual 133, 3) := by decide +kernel
theorem dR_signatures_21 : decode prog_8_method_40_code 21 = .ok (.goto 9, 3) := by decide +kernel
theorem dR_signatures_24 : decode prog_8_method_40_code 24 = .ok (.aload_n 0, 1) := by decide +kernel
theorem dR_signatures_25 : decode prog_8_method_40_code 25 = .ok (.getfield 29, 3) := by decide +kernel
theorem dR_signatures_28 : decode prog_8_method_40_code 28 = .ok (.iload_n 1, 1) := by decide +kernel
theorem dR_signatures_29 : decode prog_8_method_40_code 29 = .ok (.iaload, 1) := by decide +kernel
theorem dR_signatures_30 : decode prog_8_method_40_code 30 = .ok (.ireturn, 1) := by decide +kernel
theorem dR_verdict_0 : decode prog_8_method_41_code 0 = .ok (.aload_n 0, 1) := by decide +kernel
theorem dR_verdict_1 : decode prog_8_method_41_code 1 = .ok (.iload_n 1, 1) := by decide +kernel
theorem dR_verdict_2 : decode prog_8_method_41_code 2 = .ok (.invokevirtual 87, 3) := by decide +kernel
theorem dR_verdict_5 : decode prog_8_method_41_code 5 = .ok (.ifCond .eq 12, 3) := by decide +kernel
theorem dR_verdict_8 : decode prog_8_method_41_code 8 = .ok (.aload_n 0, 1) := by decide +kernel
theorem dR_verdict_9 : decode prog_8_method_41_code 9 = .ok (.getfield 32, 3) := by decide +kernel
theorem dR_verdict_12 : decode prog_8_method_41_code 12 = .ok (.iload_n 1, 1) := by decide +kernel
theorem dR_verdict_13 : decode prog_8_method_41_code 13 = .ok (.iaload, 1) := by decide +kernel
theorem dR_verdict_14 : decode prog_8_method_41_code 14 = .ok (.goto 4, 3) := by decide +kernel
theorem dR_verdict_17 : decode prog_8_method_41_code 17 = .ok (.iconst (-1), 1) := by decide +kernel
theorem dR_verdict_18 : decode prog_8_method_41_code 18 = .ok (.ireturn, 1) := by decide +kernel
theorem dR_spender_0 : decode prog_8_method_42_code 0 = .ok (.aload_n 0, 1) := by decide +kernel
theorem dR_spender_1 : decode prog_8_method_42_code 1 = .ok (.iload_n 1, 1) := by decide +kernel
theorem dR_spender_2 : decode prog_8_method_42_code 2 = .ok (.iload_n 2, 1) := by decide +kernel
theorem dR_spender_3 : decode prog_8_method_42_code 3 = .ok (.invokevirtual 95, 3) := by decide +kernel
theorem dR_spender_6 : decode prog_8_method_42_code 6 = .ok (.ifCond .eq 16, 3) := by decide +kernel
theorem dR_spender_9 : decode prog_8_method_42_code 9 = .ok (.aload_n 0, 1) := by decide +kernel
theorem dR_spender_10 : decode prog_8_method_42_code 10 = .ok (.getfield 59, 3) := by decide +kernel
theorem dR_spender_13 : decode prog_8_method_42_code 13 = .ok (.iconst 4, 1) := by decide +kernel
theorem dR_spender_14 : decode prog_8_method_42_code 14 = .ok (.iload_n 1, 1) := by decide +kernel
theorem dR_spender_15 : decode prog_8_method_42_code 15 = .ok (.imul, 1) := by decide +kernel
theorem dR_spender_16 : decode prog_8_method_42_code 16 = .ok (.iload_n 2, 1) := by decide +kernel
theorem dR_spender_17 : decode prog_8_method_42_code 17 = .ok (.iadd, 1) := by decide +kernel
theorem dR_spender_18 : decode prog_8_method_42_code 18 = .ok (.iaload, 1) := by decide +kernel
theorem dR_spender_19 : decode prog_8_method_42_code 19 = .ok (.goto 4, 3) := by decide +kernel
theorem dR_spender_22 : decode prog_8_method_42_code 22 = .ok (.iconst (-1), 1) := by decide +kernel
theorem dR_spender_23 : decode prog_8_method_42_code 23 = .ok (.ireturn, 1) := by decide +kernel
theorem dR_standing_0 : decode prog_8_method_43_code 0 = .ok (.aload_n 0, 1) := by decide +kernel
theorem dR_standing_1 : decode prog_8_method_43_code 1 = .ok (.iload_n 1, 1) := by decide +kernel
theorem dR_standing_2 : decode prog_8_method_43_code 2 = .ok (.invokevirtual 91, 3) := by decide +kernel
theorem dR_standing_5 : decode prog_8_method_43_code 5 = .ok (.ifCond .eq 25, 3) := by decide +kernel
theorem dR_standing_8 : decode prog_8_method_43_code 8 = .ok (.aload_n 0, 1) := by decide +kernel
theorem dR_standing_9 : decode prog_8_method_43_code 9 = .ok (.iload_n 2, 1) := by decide +kernel
theorem dR_standing_10 : decode prog_8_method_43_code 10 = .ok (.invokevirtual 87, 3) := by decide +kernel
theorem dR_standing_13 : decode prog_8_method_43_code 13 = .ok (.ifCond .eq 17, 3) := by decide +kernel
theorem dR_standing_16 : decode prog_8_method_43_code 16 = .ok (.aload_n 0, 1) := by decide +kernel
theorem dR_standing_17 : decode prog_8_method_43_code 17 = .ok (.getfield 62, 3) := by decide +kernel
theorem dR_standing_20 : decode prog_8_method_43_code 20 = .ok (.bipush 20, 2) := by decide +kernel
theorem dR_standing_22 : decode prog_8_method_43_code 22 = .ok (.iload_n 1, 1) := by decide +kernel
theorem dR_standing_23 : decode prog_8_method_43_code 23 = .ok (.imul, 1) := by decide +kernel
theorem dR_standing_24 : decode prog_8_method_43_code 24 = .ok (.iload_n 2, 1) := by decide +kernel
theorem dR_standing_25 : decode prog_8_method_43_code 25 = .ok (.iadd, 1) := by decide +kernel
theorem dR_standing_26 : decode prog_8_method_43_code 26 = .ok (.iaload, 1) := by decide +kernel
theorem dR_standing_27 : decode prog_8_method_43_code 27 = .ok (.goto 4, 3) := by decide +kernel
theorem dR_standing_30 : decode prog_8_method_43_code 30 = .ok (.iconst (-1), 1) := by decide +kernel
theorem dR_standing_31 : decode prog_8_method_43_code 31 = .ok (.ireturn, 1) := by decide +kernel
theorem dR_vault_0 : decode prog_8_method_44_code 0 = .ok (.aload_n 0, 1) := by decide +kernel
theorem dR_vault_1 : decode prog_8_method_44_code 1 = .ok (.iload_n 1, 1) := by decide +kernel
theorem dR_vault_2 : decode prog_8_method_44_code 2 = .ok (.invokevirtual 91, 3) := by decide +kernel
theorem dR_vault_5 : decode prog_8_method_44_code 5 = .ok (.ifCond .eq 8, 3) := by decide +kernel
theorem dR_vault_8 : decode prog_8_method_44_code 8 = .ok (.iload_n 2, 1) := by decide +kernel
theorem dR_vault_9 : decode prog_8_method_44_code 9 = .ok (.iconst (-1), 1) := by decide +kernel
theorem dR_vault_10 : decode prog_8_method_44_code 10 = .ok (.if_icmp .ge 5, 3) := by decide +kernel
theorem dR_vault_13 : decode prog_8_method_44_code 13 = .ok (.iconst (-1), 1) := by decide +kernel
theorem dR_vault_14 : decode prog_8_method_44_code 14 = .ok (.ireturn, 1) := by decide +kernel
theorem dR_vault_15 : decode prog_8_method_44_code 15 = .ok (.iconst 0, 1) := by decide +kernel
theorem dR_vault_16 : decode prog_8_method_44_code 16 = .ok (.istore_n 3, 1) := by decide +kernel
theorem dR_vault_17 : decode prog_8_method_44_code 17 = .ok (.iconst 0, 1) := by decide +kernel
theorem dR_vault_18 : decode prog_8_method_44_code 18 = .ok (.istore 4, 2) := by decide +kernel
theorem dR_vault_20 : decode prog_8_method_44_code 20 = .ok (.iload 4, 2) := by decide +kernel
theorem dR_vault_22 : decode prog_8_method_44_code 22 = .ok (.bipush 80, 2) := by decide +kernel
theorem dR_vault_24 : decode prog_8_method_44_code 24 = .ok (.if_icmp .ge 39, 3) := by decide +kernel
theorem dR_vault_27 : decode prog_8_method_44_code 27 = .ok (.aload_n 0, 1) := by decide +kernel
theorem dR_vault_28 : decode prog_8_method_44_code 28 = .ok (.iload_n 1, 1) := by decide +kernel
theorem dR_vault_29 : decode prog_8_method_44_code 29 = .ok (.iload 4, 2) := by decide +kernel
theorem dR_vault_31 : decode prog_8_method_44_code 31 = .ok (.invokevirtual 113, 3) := by decide +kernel
theorem dR_vault_34 : decode prog_8_method_44_code 34 = .ok (.istore 5, 2) := by decide +kernel
theorem dR_vault_36 : decode prog_8_method_44_code 36 = .ok (.iload 5, 2) := by decide +kernel
theorem dR_vault_38 : decode prog_8_method_44_code 38 = .ok (.ifCond .eq 11, 3) := by decide +kernel
theorem dR_vault_41 : decode prog_8_method_44_code 41 = .ok (.iload_n 3, 1) := by decide +kernel
theorem dR_vault_42 : decode prog_8_method_44_code 42 = .ok (.iload_n 2, 1) := by decide +kernel
theorem dR_vault_43 : decode prog_8_method_44_code 43 = .ok (.if_icmp .ne 6, 3) := by decide +kernel
theorem dR_vault_46 : decode prog_8_method_44_code 46 = .ok (.iload 4, 2) := by decide +kernel
theorem dR_vault_48 : decode prog_8_method_44_code 48 = .ok (.ireturn, 1) := by decide +kernel
theorem dR_vault_49 : decode prog_8_method_44_code 49 = .ok (.iload 5, 2) := by decide +kernel
theorem dR_vault_51 : decode prog_8_method_44_code 51 = .ok (.ifCond .eq 6, 3) := by decide +kernel
theorem dR_vault_54 : decode prog_8_method_44_code 54 = .ok (.iinc 3 1, 3) := by decide +kernel
theorem dR_vault_57 : decode prog_8_method_44_code 57 = .ok (.iinc 4 1, 3) := by decide +kernel
theorem dR_vault_60 : decode prog_8_method_44_code 60 = .ok (.goto (-40), 3) := by decide +kernel
theorem dR_vault_63 : decode prog_8_method_44_code 63 = .ok (.iload_n 2, 1) := by decide +kernel
theorem dR_vault_64 : decode prog_8_method_44_code 64 = .ok (.iconst (-1), 1) := by decide +kernel
theorem dR_vault_65 : decode prog_8_method_44_code 65 = .ok (.if_icmp .ne 7, 3) := by decide +kernel
theorem dR_vault_68 : decode prog_8_method_44_code 68 = .ok (.iload_n 3, 1) := by decide +kernel
theorem dR_vault_69 : decode prog_8_method_44_code 69 = .ok (.goto 4, 3) := by decide +kernel
theorem dR_vault_72 : decode prog_8_method_44_code 72 = .ok (.iconst (-1), 1) := by decide +kernel
theorem dR_vault_73 : decode prog_8_method_44_code 73 = .ok (.ireturn, 1) := by decide +kernel
theorem dR_balance_0 : decode prog_8_method_45_code 0 = .ok (.aload_n 0, 1) := by decide +kernel
theorem dR_balance_1 : decode prog_8_method_45_code 1 = .ok (.iload_n 1, 1) := by decide +kernel
theorem dR_balance_2 : decode prog_8_method_45_code 2 = .ok (.invokevirtual 91, 3) := by decide +kernel
theorem dR_balance_5 : decode prog_8_method_45_code 5 = .ok (.ifCond .eq 11, 3) := by decide +kernel
theorem dR_balance_8 : decode prog_8_method_45_code 8 = .ok (.aload_n 0, 1) := by decide +kernel
theorem dR_balance_9 : decode prog_8_method_45_code 9 = .ok (.iload_n 2, 1) := by decide +kernel
theorem dR_balance_10 : decode prog_8_method_45_code 10 = .ok (.invokevirtual 91, 3) := by decide +kernel
theorem dR_balance_13 : decode prog_8_method_45_code 13 = .ok (.ifCond .ne 5, 3) := by decide +kernel
theorem dR_balance_16 : decode prog_8_method_45_code 16 = .ok (.iconst (-1), 1) := by decide +kernel
theorem dR_balance_17 : decode prog_8_method_45_code 17 = .ok (.ireturn, 1) := by decide +kernel
theorem dR_balance_18 : decode prog_8_method_45_code 18 = .ok (.iconst 0, 1) := by decide +kernel
theorem dR_balance_19 : decode prog_8_method_45_code 19 = .ok (.istore_n 3, 1) := by decide +kernel
theorem dR_balance_20 : decode prog_8_method_45_code 20 = .ok (.iconst 0, 1) := by decide +kernel
theorem dR_balance_21 : decode prog_8_method_45_code 21 = .ok (.istore 4, 2) := by decide +kernel
theorem dR_balance_23 : decode prog_8_method_45_code 23 = .ok (.iload 4, 2) := by decide +kernel
theorem dR_balance_25 : decode prog_8_method_45_code 25 = .ok (.bipush 80, 2) := by decide +kernel
theorem dR_balance_27 : decode prog_8_method_45_code 27 = .ok (.if_icmp .ge 50, 3) := by decide +kernel
theorem dR_balance_30 : decode prog_8_method_45_code 30 = .ok (.aload_n 0, 1) := by decide +kernel
theorem dR_balance_31 : decode prog_8_method_45_code 31 = .ok (.iload_n 1, 1) := by decide +kernel
theorem dR_balance_32 : decode prog_8_method_45_code 32 = .ok (.iload 4, 2) := by decide +kernel
theorem dR_balance_34 : decode prog_8_method_45_code 34 = .ok (.invokevirtual 113, 3) := by decide +kernel
theorem dR_balance_37 : decode prog_8_method_45_code 37 = .ok (.ifCond .eq 34, 3) := by decide +kernel
theorem dR_balance_40 : decode prog_8_method_45_code 40 = .ok (.aload_n 0, 1) := by decide +kernel
theorem dR_balance_41 : decode prog_8_method_45_code 41 = .ok (.getfield 44, 3) := by decide +kernel
theorem dR_balance_44 : decode prog_8_method_45_code 44 = .ok (.iload 4, 2) := by decide +kernel
theorem dR_balance_46 : decode prog_8_method_45_code 46 = .ok (.iaload, 1) := by decide +kernel
theorem dR_balance_47 : decode prog_8_method_45_code 47 = .ok (.ifCond .ne 24, 3) := by decide +kernel
theorem dR_balance_50 : decode prog_8_method_45_code 50 = .ok (.aload_n 0, 1) := by decide +kernel
theorem dR_balance_51 : decode prog_8_method_45_code 51 = .ok (.getfield 47, 3) := by decide +kernel
theorem dR_balance_54 : decode prog_8_method_45_code 54 = .ok (.iload 4, 2) := by decide +kernel
theorem dR_balance_56 : decode prog_8_method_45_code 56 = .ok (.iaload, 1) := by decide +kernel
theorem dR_balance_57 : decode prog_8_method_45_code 57 = .ok (.iload_n 2, 1) := by decide +kernel
theorem dR_balance_58 : decode prog_8_method_45_code 58 = .ok (.if_icmp .ne 13, 3) := by decide +kernel
theorem dR_balance_61 : decode prog_8_method_45_code 61 = .ok (.iload_n 3, 1) := by decide +kernel
theorem dR_balance_62 : decode prog_8_method_45_code 62 = .ok (.aload_n 0, 1) := by decide +kernel
theorem dR_balance_63 : decode prog_8_method_45_code 63 = .ok (.getfield 53, 3) := by decide +kernel
theorem dR_balance_66 : decode prog_8_method_45_code 66 = .ok (.iload 4, 2) := by decide +kernel
theorem dR_balance_68 : decode prog_8_method_45_code 68 = .ok (.iaload, 1) := by decide +kernel
theorem dR_balance_69 : decode prog_8_method_45_code 69 = .ok (.iadd, 1) := by decide +kernel
theorem dR_balance_70 : decode prog_8_method_45_code 70 = .ok (.istore_n 3, 1) := by decide +kernel
theorem dR_balance_71 : decode prog_8_method_45_code 71 = .ok (.iinc 4 1, 3) := by decide +kernel
theorem dR_balance_74 : decode prog_8_method_45_code 74 = .ok (.goto (-51), 3) := by decide +kernel
theorem dR_balance_77 : decode prog_8_method_45_code 77 = .ok (.iload_n 3, 1) := by decide +kernel
theorem dR_balance_78 : decode prog_8_method_45_code 78 = .ok (.ireturn, 1) := by decide +kernel
theorem dR_fetched_0 : decode prog_8_method_46_code 0 = .ok (.aload_n 0, 1) := by decide +kernel
theorem dR_fetched_1 : decode prog_8_method_46_code 1 = .ok (.iload_n 1, 1) := by decide +kernel
theorem dR_fetched_2 : decode prog_8_method_46_code 2 = .ok (.invokevirtual 91, 3) := by decide +kernel
theorem dR_fetched_5 : decode prog_8_method_46_code 5 = .ok (.ifCond .eq 12, 3) := by decide +kernel
theorem dR_fetched_8 : decode prog_8_method_46_code 8 = .ok (.aload_n 0, 1) := by decide +kernel
theorem dR_fetched_9 : decode prog_8_method_46_code 9 = .ok (.getfield 68, 3) := by decide +kernel
theorem dR_fetched_12 : decode prog_8_method_46_code 12 = .ok (.iload_n 1, 1) := by decide +kernel
theorem dR_fetched_13 : decode prog_8_method_46_code 13 = .ok (.iaload, 1) := by decide +kernel
theorem dR_fetched_14 : decode prog_8_method_46_code 14 = .ok (.goto 4, 3) := by decide +kernel
theorem dR_fetched_17 : decode prog_8_method_46_code 17 = .ok (.iconst (-1), 1) := by decide +kernel
theorem dR_fetched_18 : decode prog_8_method_46_code 18 = .ok (.ireturn, 1) := by decide +kernel
theorem dR_tree_0 : decode prog_8_method_48_code 0 = .ok (.aload_n 0, 1) := by decide +kernel
theorem dR_tree_1 : decode prog_8_method_48_code 1 = .ok (.iload_n 1, 1) := by decide +kernel
theorem dR_tree_2 : decode prog_8_method_48_code 2 = .ok (.invokevirtual 87, 3) := by decide +kernel
theorem dR_tree_5 : decode prog_8_method_48_code 5 = .ok (.ifCond .eq 24, 3) := by decide +kernel
theorem dR_tree_8 : decode prog_8_method_48_code 8 = .ok (.iload_n 2, 1) := by decide +kernel
theorem dR_tree_9 : decode prog_8_method_48_code 9 = .ok (.ifCond .lt 20, 3) := by decide +kernel
theorem dR_tree_12 : decode prog_8_method_48_code 12 = .ok (.iload_n 2, 1) := by decide +kernel
theorem dR_tree_13 : decode prog_8_method_48_code 13 = .ok (.iconst 4, 1) := by decide +kernel
theorem dR_tree_14 : decode prog_8_method_48_code 14 = .ok (.if_icmp .gt 15, 3) := by decide +kernel
theorem dR_tree_17 : decode prog_8_method_48_code 17 = .ok (.iload_n 3, 1) := by decide +kernel
theorem dR_tree_18 : decode prog_8_method_48_code 18 = .ok (.ifCond .lt 11, 3) := by decide +kernel
theorem dR_tree_21 : decode prog_8_method_48_code 21 = .ok (.iload_n 3, 1) := by decide +kernel
theorem dR_tree_22 : decode prog_8_method_48_code 22 = .ok (.bipush 16, 2) := by decide +kernel
theorem dR_tree_24 : decode prog_8_method_48_code 24 = .ok (.iload_n 2, 1) := by decide +kernel
theorem dR_tree_25 : decode prog_8_method_48_code 25 = .ok (.ishr, 1) := by decide +kernel
theorem dR_tree_26 : decode prog_8_method_48_code 26 = .ok (.if_icmp .lt 5, 3) := by decide +kernel
theorem dR_tree_29 : decode prog_8_method_48_code 29 = .ok (.iconst 0, 1) := by decide +kernel
theorem dR_tree_30 : decode prog_8_method_48_code 30 = .ok (.ireturn, 1) := by decide +kernel
theorem dR_tree_31 : decode prog_8_method_48_code 31 = .ok (.iconst 1, 1) := by decide +kernel
theorem dR_tree_32 : decode prog_8_method_48_code 32 = .ok (.iload_n 2, 1) := by decide +kernel
theorem dR_tree_33 : decode prog_8_method_48_code 33 = .ok (.ishl, 1) := by decide +kernel
theorem dR_tree_34 : decode prog_8_method_48_code 34 = .ok (.istore 4, 2) := by decide +kernel
theorem dR_tree_36 : decode prog_8_method_48_code 36 = .ok (.iconst 0, 1) := by decide +kernel
theorem dR_tree_37 : decode prog_8_method_48_code 37 = .ok (.istore 5, 2) := by decide +kernel
theorem dR_tree_39 : decode prog_8_method_48_code 39 = .ok (.iload 5, 2) := by decide +kernel
theorem dR_tree_41 : decode prog_8_method_48_code 41 = .ok (.iload 4, 2) := by decide +kernel
theorem dR_tree_43 : decode prog_8_method_48_code 43 = .ok (.if_icmp .ge 28, 3) := by decide +kernel
theorem dR_tree_46 : decode prog_8_method_48_code 46 = .ok (.aload_n 0, 1) := by decide +kernel
theorem dR_tree_47 : decode prog_8_method_48_code 47 = .ok (.getfield 80, 3) := by decide +kernel
theorem dR_tree_50 : decode prog_8_method_48_code 50 = .ok (.iload 5, 2) := by decide +kernel
theorem dR_tree_52 : decode prog_8_method_48_code 52 = .ok (.aload_n 0, 1) := by decide +kernel
theorem dR_tree_53 : decode prog_8_method_48_code 53 = .ok (.iload_n 1, 1) := by decide +kernel
theorem dR_tree_54 : decode prog_8_method_48_code 54 = .ok (.iload_n 3, 1) := by decide +kernel
theorem dR_tree_55 : decode prog_8_method_48_code 55 = .ok (.iload 4, 2) := by decide +kernel
theorem dR_tree_57 : decode prog_8_method_48_code 57 = .ok (.imul, 1) := by decide +kernel
theorem dR_tree_58 : decode prog_8_method_48_code 58 = .ok (.iload 5, 2) := by decide +kernel
theorem dR_tree_60 : decode prog_8_method_48_code 60 = .ok (.iadd, 1) := by decide +kernel
theorem dR_tree_61 : decode prog_8_method_48_code 61 = .ok (.invokevirtual 185, 3) := by decide +kernel
theorem dR_tree_64 : decode prog_8_method_48_code 64 = .ok (.iastore, 1) := by decide +kernel
theorem dR_tree_65 : decode prog_8_method_48_code 65 = .ok (.iinc 5 1, 3) := by decide +kernel
theorem dR_tree_68 : decode prog_8_method_48_code 68 = .ok (.goto (-29), 3) := by decide +kernel
theorem dR_tree_71 : decode prog_8_method_48_code 71 = .ok (.iload 4, 2) := by decide +kernel
theorem dR_tree_73 : decode prog_8_method_48_code 73 = .ok (.iconst 2, 1) := by decide +kernel
theorem dR_tree_74 : decode prog_8_method_48_code 74 = .ok (.idiv, 1) := by decide +kernel
theorem dR_tree_75 : decode prog_8_method_48_code 75 = .ok (.istore 5, 2) := by decide +kernel
theorem dR_tree_77 : decode prog_8_method_48_code 77 = .ok (.iload 5, 2) := by decide +kernel
theorem dR_tree_79 : decode prog_8_method_48_code 79 = .ok (.ifCond .le 75, 3) := by decide +kernel
theorem dR_tree_82 : decode prog_8_method_48_code 82 = .ok (.iconst 0, 1) := by decide +kernel
theorem dR_tree_83 : decode prog_8_method_48_code 83 = .ok (.istore 6, 2) := by decide +kernel
theorem dR_tree_85 : decode prog_8_method_48_code 85 = .ok (.iload 6, 2) := by decide +kernel
theorem dR_tree_87 : decode prog_8_method_48_code 87 = .ok (.iload 5, 2) := by decide +kernel
theorem dR_tree_89 : decode prog_8_method_48_code 89 = .ok (.if_icmp .ge 56, 3) := by decide +kernel
theorem dR_tree_92 : decode prog_8_method_48_code 92 = .ok (.bipush 31, 2) := by decide +kernel
theorem dR_tree_94 : decode prog_8_method_48_code 94 = .ok (.aload_n 0, 1) := by decide +kernel
theorem dR_tree_95 : decode prog_8_method_48_code 95 = .ok (.getfield 80, 3) := by decide +kernel
theorem dR_tree_98 : decode prog_8_method_48_code 98 = .ok (.iconst 2, 1) := by decide +kernel
theorem dR_tree_99 : decode prog_8_method_48_code 99 = .ok (.iload 6, 2) := by decide +kernel
theorem dR_tree_101 : decode prog_8_method_48_code 101 = .ok (.imul, 1) := by decide +kernel
theorem dR_tree_102 : decode prog_8_method_48_code 102 = .ok (.iaload, 1) := by decide +kernel
theorem dR_tree_103 : decode prog_8_method_48_code 103 = .ok (.imul, 1) := by decide +kernel
theorem dR_tree_104 : decode prog_8_method_48_code 104 = .ok (.bipush 17, 2) := by decide +kernel
theorem dR_tree_106 : decode prog_8_method_48_code 106 = .ok (.aload_n 0, 1) := by decide +kernel
theorem dR_tree_107 : decode prog_8_method_48_code 107 = .ok (.getfield 80, 3) := by decide +kernel
theorem dR_tree_110 : decode prog_8_method_48_code 110 = .ok (.iconst 2, 1) := by decide +kernel
theorem dR_tree_111 : decode prog_8_method_48_code 111 = .ok (.iload 6, 2) := by decide +kernel
theorem dR_tree_113 : decode prog_8_method_48_code 113 = .ok (.imul, 1) := by decide +kernel
theorem dR_tree_114 : decode prog_8_method_48_code 114 = .ok (.iconst 1, 1) := by decide +kernel
theorem dR_tree_115 : decode prog_8_method_48_code 115 = .ok (.iadd, 1) := by decide +kernel
theorem dR_tree_116 : decode prog_8_method_48_code 116 = .ok (.iaload, 1) := by decide +kernel
theorem dR_tree_117 : decode prog_8_method_48_code 117 = .ok (.imul, 1) := by decide +kernel
theorem dR_tree_118 : decode prog_8_method_48_code 118 = .ok (.iadd, 1) := by decide +kernel
theorem dR_tree_119 : decode prog_8_method_48_code 119 = .ok (.bipush 7, 2) := by decide +kernel
theorem dR_tree_121 : decode prog_8_method_48_code 121 = .ok (.iadd, 1) := by decide +kernel
theorem dR_tree_122 : decode prog_8_method_48_code 122 = .ok (.istore 7, 2) := by decide +kernel
theorem dR_tree_124 : decode prog_8_method_48_code 124 = .ok (.aload_n 0, 1) := by decide +kernel
theorem dR_tree_125 : decode prog_8_method_48_code 125 = .ok (.getfield 80, 3) := by decide +kernel
theorem dR_tree_128 : decode prog_8_method_48_code 128 = .ok (.iload 6, 2) := by decide +kernel
theorem dR_tree_130 : decode prog_8_method_48_code 130 = .ok (.iload 7, 2) := by decide +kernel
theorem dR_tree_132 : decode prog_8_method_48_code 132 = .ok (.iload 7, 2) := by decide +kernel
theorem dR_tree_134 : decode prog_8_method_48_code 134 = .ok (.bipush 13, 2) := by decide +kernel
theorem dR_tree_136 : decode prog_8_method_48_code 136 = .ok (.iushr, 1) := by decide +kernel
theorem dR_tree_137 : decode prog_8_method_48_code 137 = .ok (.ixor, 1) := by decide +kernel
theorem dR_tree_138 : decode prog_8_method_48_code 138 = .ok (.iastore, 1) := by decide +kernel
theorem dR_tree_139 : decode prog_8_method_48_code 139 = .ok (.iinc 6 1, 3) := by decide +kernel
theorem dR_tree_142 : decode prog_8_method_48_code 142 = .ok (.goto (-57), 3) := by decide +kernel
theorem dR_tree_145 : decode prog_8_method_48_code 145 = .ok (.iload 5, 2) := by decide +kernel
theorem dR_tree_147 : decode prog_8_method_48_code 147 = .ok (.iconst 2, 1) := by decide +kernel
theorem dR_tree_148 : decode prog_8_method_48_code 148 = .ok (.idiv, 1) := by decide +kernel
theorem dR_tree_149 : decode prog_8_method_48_code 149 = .ok (.istore 5, 2) := by decide +kernel
theorem dR_tree_151 : decode prog_8_method_48_code 151 = .ok (.goto (-74), 3) := by decide +kernel
theorem dR_tree_154 : decode prog_8_method_48_code 154 = .ok (.aload_n 0, 1) := by decide +kernel
theorem dR_tree_155 : decode prog_8_method_48_code 155 = .ok (.getfield 80, 3) := by decide +kernel
theorem dR_tree_158 : decode prog_8_method_48_code 158 = .ok (.iconst 0, 1) := by decide +kernel
theorem dR_tree_159 : decode prog_8_method_48_code 159 = .ok (.iaload, 1) := by decide +kernel
theorem dR_tree_160 : decode prog_8_method_48_code 160 = .ok (.ireturn, 1) := by decide +kernel
theorem dR_leaf_0 : decode prog_8_method_47_code 0 = .ok (.iload_n 2, 1) := by decide +kernel
theorem dR_leaf_1 : decode prog_8_method_47_code 1 = .ok (.iconst 3, 1) := by decide +kernel
theorem dR_leaf_2 : decode prog_8_method_47_code 2 = .ok (.if_icmp .lt 40, 3) := by decide +kernel
theorem dR_leaf_5 : decode prog_8_method_47_code 5 = .ok (.iload_n 2, 1) := by decide +kernel
theorem dR_leaf_6 : decode prog_8_method_47_code 6 = .ok (.bipush 6, 2) := by decide +kernel
theorem dR_leaf_8 : decode prog_8_method_47_code 8 = .ok (.if_icmp .gt 34, 3) := by decide +kernel
theorem dR_leaf_11 : decode prog_8_method_47_code 11 = .ok (.iload_n 2, 1) := by decide +kernel
theorem dR_leaf_12 : decode prog_8_method_47_code 12 = .ok (.iconst 3, 1) := by decide +kernel
theorem dR_leaf_13 : decode prog_8_method_47_code 13 = .ok (.isub, 1) := by decide +kernel
theorem dR_leaf_14 : decode prog_8_method_47_code 14 = .ok (.aload_n 0, 1) := by decide +kernel
theorem dR_leaf_15 : decode prog_8_method_47_code 15 = .ok (.getfield 35, 3) := by decide +kernel
theorem dR_leaf_18 : decode prog_8_method_47_code 18 = .ok (.iload_n 1, 1) := by decide +kernel
theorem dR_leaf_19 : decode prog_8_method_47_code 19 = .ok (.iaload, 1) := by decide +kernel
theorem dR_leaf_20 : decode prog_8_method_47_code 20 = .ok (.if_icmp .ge 20, 3) := by decide +kernel
theorem dR_leaf_23 : decode prog_8_method_47_code 23 = .ok (.iconst 1, 1) := by decide +kernel
theorem dR_leaf_24 : decode prog_8_method_47_code 24 = .ok (.aload_n 0, 1) := by decide +kernel
theorem dR_leaf_25 : decode prog_8_method_47_code 25 = .ok (.getfield 41, 3) := by decide +kernel
theorem dR_leaf_28 : decode prog_8_method_47_code 28 = .ok (.iconst 4, 1) := by decide +kernel
theorem dR_leaf_29 : decode prog_8_method_47_code 29 = .ok (.iload_n 1, 1) := by decide +kernel
theorem dR_leaf_30 : decode prog_8_method_47_code 30 = .ok (.imul, 1) := by decide +kernel
theorem dR_leaf_31 : decode prog_8_method_47_code 31 = .ok (.iload_n 2, 1) := by decide +kernel
theorem dR_leaf_32 : decode prog_8_method_47_code 32 = .ok (.iadd, 1) := by decide +kernel
theorem dR_leaf_33 : decode prog_8_method_47_code 33 = .ok (.iconst 3, 1) := by decide +kernel
theorem dR_leaf_34 : decode prog_8_method_47_code 34 = .ok (.isub, 1) := by decide +kernel
theorem dR_leaf_35 : decode prog_8_method_47_code 35 = .ok (.iaload, 1) := by decide +kernel
theorem dR_leaf_36 : decode prog_8_method_47_code 36 = .ok (.iadd, 1) := by decide +kernel
theorem dR_leaf_37 : decode prog_8_method_47_code 37 = .ok (.goto 4, 3) := by decide +kernel
theorem dR_leaf_40 : decode prog_8_method_47_code 40 = .ok (.iconst 0, 1) := by decide +kernel
theorem dR_leaf_41 : decode prog_8_method_47_code 41 = .ok (.ireturn, 1) := by decide +kernel
theorem dR_leaf_42 : decode prog_8_method_47_code 42 = .ok (.iload_n 2, 1) := by decide +kernel
theorem dR_leaf_43 : decode prog_8_method_47_code 43 = .ok (.bipush 8, 2) := by decide +kernel
theorem dR_leaf_45 : decode prog_8_method_47_code 45 = .ok (.if_icmp .lt 85, 3) := by decide +kernel
theorem dR_leaf_48 : decode prog_8_method_47_code 48 = .ok (.iload_n 2, 1) := by decide +kernel
theorem dR_leaf_49 : decode prog_8_method_47_code 49 = .ok (.bipush 11, 2) := by decide +kernel
theorem dR_leaf_51 : decode prog_8_method_47_code 51 = .ok (.if_icmp .gt 79, 3) := by decide +kernel
theorem dR_leaf_54 : decode prog_8_method_47_code 54 = .ok (.iconst 4, 1) := by decide +kernel
theorem dR_leaf_55 : decode prog_8_method_47_code 55 = .ok (.iload_n 1, 1) := by decide +kernel
theorem dR_leaf_56 : decode prog_8_method_47_code 56 = .ok (.imul, 1) := by decide +kernel
theorem dR_leaf_57 : decode prog_8_method_47_code 57 = .ok (.iload_n 2, 1) := by decide +kernel
theorem dR_leaf_58 : decode prog_8_method_47_code 58 = .ok (.iadd, 1) := by decide +kernel
theorem dR_leaf_59 : decode prog_8_method_47_code 59 = .ok (.bipush 8, 2) := by decide +kernel
theorem dR_leaf_61 : decode prog_8_method_47_code 61 = .ok (.isub, 1) := by decide +kernel
theorem dR_leaf_62 : decode prog_8_method_47_code 62 = .ok (.istore_n 3, 1) := by decide +kernel
theorem dR_leaf_63 : decode prog_8_method_47_code 63 = .ok (.iload_n 2, 1) := by decide +kernel
theorem dR_leaf_64 : decode prog_8_method_47_code 64 = .ok (.bipush 8, 2) := by decide +kernel
theorem dR_leaf_66 : decode prog_8_method_47_code 66 = .ok (.isub, 1) := by decide +kernel
theorem dR_leaf_67 : decode prog_8_method_47_code 67 = .ok (.aload_n 0, 1) := by decide +kernel
theorem dR_leaf_68 : decode prog_8_method_47_code 68 = .ok (.getfield 38, 3) := by decide +kernel
theorem dR_leaf_71 : decode prog_8_method_47_code 71 = .ok (.iload_n 1, 1) := by decide +kernel
theorem dR_leaf_72 : decode prog_8_method_47_code 72 = .ok (.iaload, 1) := by decide +kernel
theorem dR_leaf_73 : decode prog_8_method_47_code 73 = .ok (.if_icmp .lt 7, 3) := by decide +kernel
theorem dR_leaf_76 : decode prog_8_method_47_code 76 = .ok (.iconst 0, 1) := by decide +kernel
theorem dR_leaf_77 : decode prog_8_method_47_code 77 = .ok (.goto 52, 3) := by decide +kernel
theorem dR_leaf_80 : decode prog_8_method_47_code 80 = .ok (.iconst 1, 1) := by decide +kernel
theorem dR_leaf_81 : decode prog_8_method_47_code 81 = .ok (.aload_n 0, 1) := by decide +kernel
theorem dR_leaf_82 : decode prog_8_method_47_code 82 = .ok (.getfield 44, 3) := by decide +kernel
theorem dR_leaf_85 : decode prog_8_method_47_code 85 = .ok (.iload_n 3, 1) := by decide +kernel
theorem dR_leaf_86 : decode prog_8_method_47_code 86 = .ok (.iaload, 1) := by decide +kernel
theorem dR_leaf_87 : decode prog_8_method_47_code 87 = .ok (.iadd, 1) := by decide +kernel
theorem dR_leaf_88 : decode prog_8_method_47_code 88 = .ok (.iconst 3, 1) := by decide +kernel
theorem dR_leaf_89 : decode prog_8_method_47_code 89 = .ok (.aload_n 0, 1) := by decide +kernel
theorem dR_leaf_90 : decode prog_8_method_47_code 90 = .ok (.getfield 47, 3) := by decide +kernel
theorem dR_leaf_93 : decode prog_8_method_47_code 93 = .ok (.iload_n 3, 1) := by decide +kernel
theorem dR_leaf_94 : decode prog_8_method_47_code 94 = .ok (.iaload, 1) := by decide +kernel
theorem dR_leaf_95 : decode prog_8_method_47_code 95 = .ok (.imul, 1) := by decide +kernel
theorem dR_leaf_96 : decode prog_8_method_47_code 96 = .ok (.iadd, 1) := by decide +kernel
theorem dR_leaf_97 : decode prog_8_method_47_code 97 = .ok (.bipush 12, 2) := by decide +kernel
theorem dR_leaf_99 : decode prog_8_method_47_code 99 = .ok (.aload_n 0, 1) := by decide +kernel
theorem dR_leaf_100 : decode prog_8_method_47_code 100 = .ok (.getfield 50, 3) := by decide +kernel
theorem dR_leaf_103 : decode prog_8_method_47_code 103 = .ok (.iload_n 3, 1) := by decide +kernel
theorem dR_leaf_104 : decode prog_8_method_47_code 104 = .ok (.iaload, 1) := by decide +kernel
theorem dR_leaf_105 : decode prog_8_method_47_code 105 = .ok (.imul, 1) := by decide +kernel
theorem dR_leaf_106 : decode prog_8_method_47_code 106 = .ok (.iadd, 1) := by decide +kernel
theorem dR_leaf_107 : decode prog_8_method_47_code 107 = .ok (.bipush 48, 2) := by decide +kernel
theorem dR_leaf_109 : decode prog_8_method_47_code 109 = .ok (.aload_n 0, 1) := by decide +kernel
theorem dR_leaf_110 : decode prog_8_method_47_code 110 = .ok (.getfield 53, 3) := by decide +kernel
theorem dR_leaf_113 : decode prog_8_method_47_code 113 = .ok (.iload_n 3, 1) := by decide +kernel
theorem dR_leaf_114 : decode prog_8_method_47_code 114 = .ok (.iaload, 1) := by decide +kernel
theorem dR_leaf_115 : decode prog_8_method_47_code 115 = .ok (.imul, 1) := by decide +kernel
theorem dR_leaf_116 : decode prog_8_method_47_code 116 = .ok (.iadd, 1) := by decide +kernel
theorem dR_leaf_117 : decode prog_8_method_47_code 117 = .ok (.ldc 184, 2) := by decide +kernel
theorem dR_leaf_119 : decode prog_8_method_47_code 119 = .ok (.aload_n 0, 1) := by decide +kernel
theorem dR_leaf_120 : decode prog_8_method_47_code 120 = .ok (.getfield 56, 3) := by decide +kernel
theorem dR_leaf_123 : decode prog_8_method_47_code 123 = .ok (.iload_n 3, 1) := by decide +kernel
theorem dR_leaf_124 : decode prog_8_method_47_code 124 = .ok (.iaload, 1) := by decide +kernel
theorem dR_leaf_125 : decode prog_8_method_47_code 125 = .ok (.iconst 1, 1) := by decide +kernel
theorem dR_leaf_126 : decode prog_8_method_47_code 126 = .ok (.iadd, 1) := by decide +kernel
theorem dR_leaf_127 : decode prog_8_method_47_code 127 = .ok (.imul, 1) := by decide +kernel
theorem dR_leaf_128 : decode prog_8_method_47_code 128 = .ok (.iadd, 1) := by decide +kernel
theorem dR_leaf_129 : decode prog_8_method_47_code 129 = .ok (.ireturn, 1) := by decide +kernel
theorem dR_leaf_130 : decode prog_8_method_47_code 130 = .ok (.iload_n 2, 1) := by decide +kernel
theorem dR_leaf_131 : decode prog_8_method_47_code 131 = .ok (.ifCond .ne 12, 3) := by decide +kernel
theorem dR_leaf_134 : decode prog_8_method_47_code 134 = .ok (.aload_n 0, 1) := by decide +kernel
theorem dR_leaf_135 : decode prog_8_method_47_code 135 = .ok (.getfield 13, 3) := by decide +kernel
theorem dR_leaf_138 : decode prog_8_method_47_code 138 = .ok (.iload_n 1, 1) := by decide +kernel
theorem dR_leaf_139 : decode prog_8_method_47_code 139 = .ok (.iaload, 1) := by decide +kernel
theorem dR_leaf_140 : decode prog_8_method_47_code 140 = .ok (.goto 71, 3) := by decide +kernel
theorem dR_leaf_143 : decode prog_8_method_47_code 143 = .ok (.iload_n 2, 1) := by decide +kernel
theorem dR_leaf_144 : decode prog_8_method_47_code 144 = .ok (.iconst 1, 1) := by decide +kernel
theorem dR_leaf_145 : decode prog_8_method_47_code 145 = .ok (.if_icmp .ne 12, 3) := by decide +kernel
theorem dR_leaf_148 : decode prog_8_method_47_code 148 = .ok (.aload_n 0, 1) := by decide +kernel
theorem dR_leaf_149 : decode prog_8_method_47_code 149 = .ok (.getfield 16, 3) := by decide +kernel
theorem dR_leaf_152 : decode prog_8_method_47_code 152 = .ok (.iload_n 1, 1) := by decide +kernel
theorem dR_leaf_153 : decode prog_8_method_47_code 153 = .ok (.iaload, 1) := by decide +kernel
theorem dR_leaf_154 : decode prog_8_method_47_code 154 = .ok (.goto 57, 3) := by decide +kernel
theorem dR_leaf_157 : decode prog_8_method_47_code 157 = .ok (.iload_n 2, 1) := by decide +kernel
theorem dR_leaf_158 : decode prog_8_method_47_code 158 = .ok (.iconst 2, 1) := by decide +kernel
theorem dR_leaf_159 : decode prog_8_method_47_code 159 = .ok (.if_icmp .ne 12, 3) := by decide +kernel
theorem dR_leaf_162 : decode prog_8_method_47_code 162 = .ok (.aload_n 0, 1) := by decide +kernel
theorem dR_leaf_163 : decode prog_8_method_47_code 163 = .ok (.getfield 19, 3) := by decide +kernel
theorem dR_leaf_166 : decode prog_8_method_47_code 166 = .ok (.iload_n 1, 1) := by decide +kernel
theorem dR_leaf_167 : decode prog_8_method_47_code 167 = .ok (.iaload, 1) := by decide +kernel
theorem dR_leaf_168 : decode prog_8_method_47_code 168 = .ok (.goto 43, 3) := by decide +kernel
theorem dR_leaf_171 : decode prog_8_method_47_code 171 = .ok (.iload_n 2, 1) := by decide +kernel
theorem dR_leaf_172 : decode prog_8_method_47_code 172 = .ok (.bipush 7, 2) := by decide +kernel
theorem dR_leaf_174 : decode prog_8_method_47_code 174 = .ok (.if_icmp .ne 12, 3) := by decide +kernel
theorem dR_leaf_177 : decode prog_8_method_47_code 177 = .ok (.aload_n 0, 1) := by decide +kernel
theorem dR_leaf_178 : decode prog_8_method_47_code 178 = .ok (.getfield 7, 3) := by decide +kernel
theorem dR_leaf_181 : decode prog_8_method_47_code 181 = .ok (.iload_n 1, 1) := by decide +kernel
theorem dR_leaf_182 : decode prog_8_method_47_code 182 = .ok (.iaload, 1) := by decide +kernel
theorem dR_leaf_183 : decode prog_8_method_47_code 183 = .ok (.goto 28, 3) := by decide +kernel
theorem dR_leaf_186 : decode prog_8_method_47_code 186 = .ok (.iload_n 2, 1) := by decide +kernel
theorem dR_leaf_187 : decode prog_8_method_47_code 187 = .ok (.bipush 12, 2) := by decide +kernel
theorem dR_leaf_189 : decode prog_8_method_47_code 189 = .ok (.if_icmp .ne 11, 3) := by decide +kernel
theorem dR_leaf_192 : decode prog_8_method_47_code 192 = .ok (.aload_n 0, 1) := by decide +kernel
theorem dR_leaf_193 : decode prog_8_method_47_code 193 = .ok (.iload_n 1, 1) := by decide +kernel
theorem dR_leaf_194 : decode prog_8_method_47_code 194 = .ok (.invokevirtual 133, 3) := by decide +kernel
theorem dR_leaf_197 : decode prog_8_method_47_code 197 = .ok (.goto 14, 3) := by decide +kernel
theorem dR_leaf_200 : decode prog_8_method_47_code 200 = .ok (.iload_n 2, 1) := by decide +kernel
theorem dR_leaf_201 : decode prog_8_method_47_code 201 = .ok (.bipush 15, 2) := by decide +kernel
theorem dR_leaf_203 : decode prog_8_method_47_code 203 = .ok (.if_icmp .ne 7, 3) := by decide +kernel
theorem dR_leaf_206 : decode prog_8_method_47_code 206 = .ok (.iload_n 1, 1) := by decide +kernel
theorem dR_leaf_207 : decode prog_8_method_47_code 207 = .ok (.goto 4, 3) := by decide +kernel
theorem dR_leaf_210 : decode prog_8_method_47_code 210 = .ok (.iconst 0, 1) := by decide +kernel
theorem dR_leaf_211 : decode prog_8_method_47_code 211 = .ok (.ireturn, 1) := by decide +kernel
end
section
-- what the bytes say (written by wip/whole/mknames.py)
theorem dW_law_0 : decode code 0 = .ok (.new 7, 3) := by decide +kernel
theorem dW_law_3 : decode code 3 = .ok (.dup, 1) := by decide +kernel
theorem dW_law_4 : decode code 4 = .ok (.invokespecial 9, 3) := by decide +kernel
theorem dW_law_7 : decode code 7 = .ok (.astore_n 1, 1) := by decide +kernel
theorem dW_law_8 : decode code 8 = .ok (.new 10, 3) := by decide +kernel
theorem dW_law_11 : decode code 11 = .ok (.dup, 1) := by decide +kernel
theorem dW_law_12 : decode code 12 = .ok (.invokespecial 12, 3) := by decide +kernel
theorem dW_law_15 : decode code 15 = .ok (.astore_n 2, 1) := by decide +kernel
theorem dW_law_16 : decode code 16 = .ok (.iconst 0, 1) := by decide +kernel
theorem dW_law_17 : decode code 17 = .ok (.istore_n 3, 1) := by decide +kernel
theorem dW_law_18 : decode code 18 = .ok (.iload_n 3, 1) := by decide +kernel
theorem dW_law_19 : decode code 19 = .ok (.aload_n 0, 1) := by decide +kernel
theorem dW_law_20 : decode code 20 = .ok (.arraylength, 1) := by decide +kernel
theorem dW_law_21 : decode code 21 = .ok (.bipush 6, 2) := by decide +kernel
theorem dW_law_23 : decode code 23 = .ok (.isub, 1) := by decide +kernel
theorem dW_law_24 : decode code 24 = .ok (.if_icmp .gt 884, 3) := by decide +kernel
theorem dW_law_27 : decode code 27 = .ok (.aload_n 0, 1) := by decide +kernel
theorem dW_law_28 : decode code 28 = .ok (.iload_n 3, 1) := by decide +kernel
theorem dW_law_29 : decode code 29 = .ok (.iaload, 1) := by decide +kernel
theorem dW_law_30 : decode code 30 = .ok (.bipush 31, 2) := by decide +kernel
theorem dW_law_32 : decode code 32 = .ok (.iand, 1) := by decide +kernel
theorem dW_law_33 : decode code 33 = .ok (.tableswitch 869 0 19 #[95, 148, 191, 254, 297, 350, 373, 422, 471, 494, 517, 576, 599, 648, 671, 704, 737, 770, 803, 826], 95) := by decide +kernel
theorem dW_law_128 : decode code 128 = .ok (.aload_n 1, 1) := by decide +kernel
theorem dW_law_129 : decode code 129 = .ok (.aload_n 0, 1) := by decide +kernel
theorem dW_law_130 : decode code 130 = .ok (.iload_n 3, 1) := by decide +kernel
theorem dW_law_131 : decode code 131 = .ok (.iconst 1, 1) := by decide +kernel
theorem dW_law_132 : decode code 132 = .ok (.iadd, 1) := by decide +kernel
theorem dW_law_133 : decode code 133 = .ok (.iaload, 1) := by decide +kernel
theorem dW_law_134 : decode code 134 = .ok (.aload_n 0, 1) := by decide +kernel
theorem dW_law_135 : decode code 135 = .ok (.iload_n 3, 1) := by decide +kernel
theorem dW_law_136 : decode code 136 = .ok (.iconst 2, 1) := by decide +kernel
theorem dW_law_137 : decode code 137 = .ok (.iadd, 1) := by decide +kernel
theorem dW_law_138 : decode code 138 = .ok (.iaload, 1) := by decide +kernel
theorem dW_law_139 : decode code 139 = .ok (.aload_n 0, 1) := by decide +kernel
theorem dW_law_140 : decode code 140 = .ok (.iload_n 3, 1) := by decide +kernel
theorem dW_law_141 : decode code 141 = .ok (.iconst 3, 1) := by decide +kernel
theorem dW_law_142 : decode code 142 = .ok (.iadd, 1) := by decide +kernel
theorem dW_law_143 : decode code 143 = .ok (.iaload, 1) := by decide +kernel
theorem dW_law_144 : decode code 144 = .ok (.aload_n 0, 1) := by decide +kernel
theorem dW_law_145 : decode code 145 = .ok (.iload_n 3, 1) := by decide +kernel
theorem dW_law_146 : decode code 146 = .ok (.iconst 4, 1) := by decide +kernel
theorem dW_law_147 : decode code 147 = .ok (.iadd, 1) := by decide +kernel
theorem dW_law_148 : decode code 148 = .ok (.iaload, 1) := by decide +kernel
theorem dW_law_149 : decode code 149 = .ok (.invokevirtual 13, 3) := by decide +kernel
theorem dW_law_152 : decode code 152 = .ok (.aload_n 2, 1) := by decide +kernel
theorem dW_law_153 : decode code 153 = .ok (.aload_n 0, 1) := by decide +kernel
theorem dW_law_154 : decode code 154 = .ok (.iload_n 3, 1) := by decide +kernel
theorem dW_law_155 : decode code 155 = .ok (.iconst 1, 1) := by decide +kernel
theorem dW_law_156 : decode code 156 = .ok (.iadd, 1) := by decide +kernel
theorem dW_law_157 : decode code 157 = .ok (.iaload, 1) := by decide +kernel
theorem dW_law_158 : decode code 158 = .ok (.aload_n 0, 1) := by decide +kernel
theorem dW_law_159 : decode code 159 = .ok (.iload_n 3, 1) := by decide +kernel
theorem dW_law_160 : decode code 160 = .ok (.iconst 2, 1) := by decide +kernel
theorem dW_law_161 : decode code 161 = .ok (.iadd, 1) := by decide +kernel
theorem dW_law_162 : decode code 162 = .ok (.iaload, 1) := by decide +kernel
theorem dW_law_163 : decode code 163 = .ok (.aload_n 0, 1) := by decide +kernel
theorem dW_law_164 : decode code 164 = .ok (.iload_n 3, 1) := by decide +kernel
theorem dW_law_165 : decode code 165 = .ok (.iconst 3, 1) := by decide +kernel
theorem dW_law_166 : decode code 166 = .ok (.iadd, 1) := by decide +kernel
theorem dW_law_167 : decode code 167 = .ok (.iaload, 1) := by decide +kernel
theorem dW_law_168 : decode code 168 = .ok (.aload_n 0, 1) := by decide +kernel
theorem dW_law_169 : decode code 169 = .ok (.iload_n 3, 1) := by decide +kernel
theorem dW_law_170 : decode code 170 = .ok (.iconst 4, 1) := by decide +kernel
theorem dW_law_171 : decode code 171 = .ok (.iadd, 1) := by decide +kernel
theorem dW_law_172 : decode code 172 = .ok (.iaload, 1) := by decide +kernel
theorem dW_law_173 : decode code 173 = .ok (.invokevirtual 17, 3) := by decide +kernel
theorem dW_law_176 : decode code 176 = .ok (.if_icmp .eq 726, 3) := by decide +kernel
theorem dW_law_179 : decode code 179 = .ok (.iconst 0, 1) := by decide +kernel
theorem dW_law_180 : decode code 180 = .ok (.ireturn, 1) := by decide +kernel
theorem dW_law_181 : decode code 181 = .ok (.aload_n 1, 1) := by decide +kernel
theorem dW_law_182 : decode code 182 = .ok (.aload_n 0, 1) := by decide +kernel
theorem dW_law_183 : decode code 183 = .ok (.iload_n 3, 1) := by decide +kernel
theorem dW_law_184 : decode code 184 = .ok (.iconst 1, 1) := by decide +kernel
theorem dW_law_185 : decode code 185 = .ok (.iadd, 1) := by decide +kernel
theorem dW_law_186 : decode code 186 = .ok (.iaload, 1) := by decide +kernel
theorem dW_law_187 : decode code 187 = .ok (.aload_n 0, 1) := by decide +kernel
theorem dW_law_188 : decode code 188 = .ok (.iload_n 3, 1) := by decide +kernel
theorem dW_law_189 : decode code 189 = .ok (.iconst 2, 1) := by decide +kernel
theorem dW_law_190 : decode code 190 = .ok (.iadd, 1) := by decide +kernel
theorem dW_law_191 : decode code 191 = .ok (.iaload, 1) := by decide +kernel
theorem dW_law_192 : decode code 192 = .ok (.aload_n 0, 1) := by decide +kernel
theorem dW_law_193 : decode code 193 = .ok (.iload_n 3, 1) := by decide +kernel
theorem dW_law_194 : decode code 194 = .ok (.iconst 3, 1) := by decide +kernel
theorem dW_law_195 : decode code 195 = .ok (.iadd, 1) := by decide +kernel
theorem dW_law_196 : decode code 196 = .ok (.iaload, 1) := by decide +kernel
theorem dW_law_197 : decode code 197 = .ok (.invokevirtual 18, 3) := by decide +kernel
theorem dW_law_200 : decode code 200 = .ok (.aload_n 2, 1) := by decide +kernel
theorem dW_law_201 : decode code 201 = .ok (.aload_n 0, 1) := by decide +kernel
theorem dW_law_202 : decode code 202 = .ok (.iload_n 3, 1) := by decide +kernel
theorem dW_law_203 : decode code 203 = .ok (.iconst 1, 1) := by decide +kernel
theorem dW_law_204 : decode code 204 = .ok (.iadd, 1) := by decide +kernel
theorem dW_law_205 : decode code 205 = .ok (.iaload, 1) := by decide +kernel
theorem dW_law_206 : decode code 206 = .ok (.aload_n 0, 1) := by decide +kernel
theorem dW_law_207 : decode code 207 = .ok (.iload_n 3, 1) := by decide +kernel
theorem dW_law_208 : decode code 208 = .ok (.iconst 2, 1) := by decide +kernel
theorem dW_law_209 : decode code 209 = .ok (.iadd, 1) := by decide +kernel
theorem dW_law_210 : decode code 210 = .ok (.iaload, 1) := by decide +kernel
theorem dW_law_211 : decode code 211 = .ok (.aload_n 0, 1) := by decide +kernel
theorem dW_law_212 : decode code 212 = .ok (.iload_n 3, 1) := by decide +kernel
theorem dW_law_213 : decode code 213 = .ok (.iconst 3, 1) := by decide +kernel
theorem dW_law_214 : decode code 214 = .ok (.iadd, 1) := by decide +kernel
theorem dW_law_215 : decode code 215 = .ok (.iaload, 1) := by decide +kernel
theorem dW_law_216 : decode code 216 = .ok (.invokevirtual 22, 3) := by decide +kernel
theorem dW_law_219 : decode code 219 = .ok (.if_icmp .eq 683, 3) := by decide +kernel
theorem dW_law_222 : decode code 222 = .ok (.iconst 0, 1) := by decide +kernel
theorem dW_law_223 : decode code 223 = .ok (.ireturn, 1) := by decide +kernel
theorem dW_law_224 : decode code 224 = .ok (.aload_n 1, 1) := by decide +kernel
theorem dW_law_225 : decode code 225 = .ok (.aload_n 0, 1) := by decide +kernel
theorem dW_law_226 : decode code 226 = .ok (.iload_n 3, 1) := by decide +kernel
theorem dW_law_227 : decode code 227 = .ok (.iconst 1, 1) := by decide +kernel
theorem dW_law_228 : decode code 228 = .ok (.iadd, 1) := by decide +kernel
theorem dW_law_229 : decode code 229 = .ok (.iaload, 1) := by decide +kernel
theorem dW_law_230 : decode code 230 = .ok (.aload_n 0, 1) := by decide +kernel
theorem dW_law_231 : decode code 231 = .ok (.iload_n 3, 1) := by decide +kernel
theorem dW_law_232 : decode code 232 = .ok (.iconst 2, 1) := by decide +kernel
theorem dW_law_233 : decode code 233 = .ok (.iadd, 1) := by decide +kernel
theorem dW_law_234 : decode code 234 = .ok (.iaload, 1) := by decide +kernel
theorem dW_law_235 : decode code 235 = .ok (.aload_n 0, 1) := by decide +kernel
theorem dW_law_236 : decode code 236 = .ok (.iload_n 3, 1) := by decide +kernel
theorem dW_law_237 : decode code 237 = .ok (.iconst 3, 1) := by decide +kernel
theorem dW_law_238 : decode code 238 = .ok (.iadd, 1) := by decide +kernel
theorem dW_law_239 : decode code 239 = .ok (.iaload, 1) := by decide +kernel
theorem dW_law_240 : decode code 240 = .ok (.aload_n 0, 1) := by decide +kernel
theorem dW_law_241 : decode code 241 = .ok (.iload_n 3, 1) := by decide +kernel
theorem dW_law_242 : decode code 242 = .ok (.iconst 4, 1) := by decide +kernel
theorem dW_law_243 : decode code 243 = .ok (.iadd, 1) := by decide +kernel
theorem dW_law_244 : decode code 244 = .ok (.iaload, 1) := by decide +kernel
theorem dW_law_245 : decode code 245 = .ok (.aload_n 0, 1) := by decide +kernel
theorem dW_law_246 : decode code 246 = .ok (.iload_n 3, 1) := by decide +kernel
theorem dW_law_247 : decode code 247 = .ok (.iconst 5, 1) := by decide +kernel
theorem dW_law_248 : decode code 248 = .ok (.iadd, 1) := by decide +kernel
theorem dW_law_249 : decode code 249 = .ok (.iaload, 1) := by decide +kernel
theorem dW_law_250 : decode code 250 = .ok (.invokevirtual 23, 3) := by decide +kernel
theorem dW_law_253 : decode code 253 = .ok (.aload_n 2, 1) := by decide +kernel
theorem dW_law_254 : decode code 254 = .ok (.aload_n 0, 1) := by decide +kernel
theorem dW_law_255 : decode code 255 = .ok (.iload_n 3, 1) := by decide +kernel
theorem dW_law_256 : decode code 256 = .ok (.iconst 1, 1) := by decide +kernel
theorem dW_law_257 : decode code 257 = .ok (.iadd, 1) := by decide +kernel
theorem dW_law_258 : decode code 258 = .ok (.iaload, 1) := by decide +kernel
theorem dW_law_259 : decode code 259 = .ok (.aload_n 0, 1) := by decide +kernel
theorem dW_law_260 : decode code 260 = .ok (.iload_n 3, 1) := by decide +kernel
theorem dW_law_261 : decode code 261 = .ok (.iconst 2, 1) := by decide +kernel
theorem dW_law_262 : decode code 262 = .ok (.iadd, 1) := by decide +kernel
theorem dW_law_263 : decode code 263 = .ok (.iaload, 1) := by decide +kernel
theorem dW_law_264 : decode code 264 = .ok (.aload_n 0, 1) := by decide +kernel
theorem dW_law_265 : decode code 265 = .ok (.iload_n 3, 1) := by decide +kernel
theorem dW_law_266 : decode code 266 = .ok (.iconst 3, 1) := by decide +kernel
theorem dW_law_267 : decode code 267 = .ok (.iadd, 1) := by decide +kernel
theorem dW_law_268 : decode code 268 = .ok (.iaload, 1) := by decide +kernel
theorem dW_law_269 : decode code 269 = .ok (.aload_n 0, 1) := by decide +kernel
theorem dW_law_270 : decode code 270 = .ok (.iload_n 3, 1) := by decide +kernel
theorem dW_law_271 : decode code 271 = .ok (.iconst 4, 1) := by decide +kernel
theorem dW_law_272 : decode code 272 = .ok (.iadd, 1) := by decide +kernel
theorem dW_law_273 : decode code 273 = .ok (.iaload, 1) := by decide +kernel
theorem dW_law_274 : decode code 274 = .ok (.aload_n 0, 1) := by decide +kernel
theorem dW_law_275 : decode code 275 = .ok (.iload_n 3, 1) := by decide +kernel
theorem dW_law_276 : decode code 276 = .ok (.iconst 5, 1) := by decide +kernel
theorem dW_law_277 : decode code 277 = .ok (.iadd, 1) := by decide +kernel
theorem dW_law_278 : decode code 278 = .ok (.iaload, 1) := by decide +kernel
theorem dW_law_279 : decode code 279 = .ok (.invokevirtual 27, 3) := by decide +kernel
theorem dW_law_282 : decode code 282 = .ok (.if_icmp .eq 620, 3) := by decide +kernel
theorem dW_law_285 : decode code 285 = .ok (.iconst 0, 1) := by decide +kernel
theorem dW_law_286 : decode code 286 = .ok (.ireturn, 1) := by decide +kernel
theorem dW_law_287 : decode code 287 = .ok (.aload_n 1, 1) := by decide +kernel
theorem dW_law_288 : decode code 288 = .ok (.aload_n 0, 1) := by decide +kernel
theorem dW_law_289 : decode code 289 = .ok (.iload_n 3, 1) := by decide +kernel
theorem dW_law_290 : decode code 290 = .ok (.iconst 1, 1) := by decide +kernel
theorem dW_law_291 : decode code 291 = .ok (.iadd, 1) := by decide +kernel
theorem dW_law_292 : decode code 292 = .ok (.iaload, 1) := by decide +kernel
theorem dW_law_293 : decode code 293 = .ok (.aload_n 0, 1) := by decide +kernel
theorem dW_law_294 : decode code 294 = .ok (.iload_n 3, 1) := by decide +kernel
theorem dW_law_295 : decode code 295 = .ok (.iconst 2, 1) := by decide +kernel
theorem dW_law_296 : decode code 296 = .ok (.iadd, 1) := by decide +kernel
theorem dW_law_297 : decode code 297 = .ok (.iaload, 1) := by decide +kernel
theorem dW_law_298 : decode code 298 = .ok (.aload_n 0, 1) := by decide +kernel
theorem dW_law_299 : decode code 299 = .ok (.iload_n 3, 1) := by decide +kernel
theorem dW_law_300 : decode code 300 = .ok (.iconst 3, 1) := by decide +kernel
theorem dW_law_301 : decode code 301 = .ok (.iadd, 1) := by decide +kernel
theorem dW_law_302 : decode code 302 = .ok (.iaload, 1) := by decide +kernel
theorem dW_law_303 : decode code 303 = .ok (.invokevirtual 28, 3) := by decide +kernel
theorem dW_law_306 : decode code 306 = .ok (.aload_n 2, 1) := by decide +kernel
theorem dW_law_307 : decode code 307 = .ok (.aload_n 0, 1) := by decide +kernel
theorem dW_law_308 : decode code 308 = .ok (.iload_n 3, 1) := by decide +kernel
theorem dW_law_309 : decode code 309 = .ok (.iconst 1, 1) := by decide +kernel
theorem dW_law_310 : decode code 310 = .ok (.iadd, 1) := by decide +kernel
theorem dW_law_311 : decode code 311 = .ok (.iaload, 1) := by decide +kernel
theorem dW_law_312 : decode code 312 = .ok (.aload_n 0, 1) := by decide +kernel
theorem dW_law_313 : decode code 313 = .ok (.iload_n 3, 1) := by decide +kernel
theorem dW_law_314 : decode code 314 = .ok (.iconst 2, 1) := by decide +kernel
theorem dW_law_315 : decode code 315 = .ok (.iadd, 1) := by decide +kernel
theorem dW_law_316 : decode code 316 = .ok (.iaload, 1) := by decide +kernel
theorem dW_law_317 : decode code 317 = .ok (.aload_n 0, 1) := by decide +kernel
theorem dW_law_318 : decode code 318 = .ok (.iload_n 3, 1) := by decide +kernel
theorem dW_law_319 : decode code 319 = .ok (.iconst 3, 1) := by decide +kernel
theorem dW_law_320 : decode code 320 = .ok (.iadd, 1) := by decide +kernel
theorem dW_law_321 : decode code 321 = .ok (.iaload, 1) := by decide +kernel
theorem dW_law_322 : decode code 322 = .ok (.invokevirtual 31, 3) := by decide +kernel
theorem dW_law_325 : decode code 325 = .ok (.if_icmp .eq 577, 3) := by decide +kernel
theorem dW_law_328 : decode code 328 = .ok (.iconst 0, 1) := by decide +kernel
theorem dW_law_329 : decode code 329 = .ok (.ireturn, 1) := by decide +kernel
theorem dW_law_330 : decode code 330 = .ok (.aload_n 1, 1) := by decide +kernel
theorem dW_law_331 : decode code 331 = .ok (.aload_n 0, 1) := by decide +kernel
theorem dW_law_332 : decode code 332 = .ok (.iload_n 3, 1) := by decide +kernel
theorem dW_law_333 : decode code 333 = .ok (.iconst 1, 1) := by decide +kernel
theorem dW_law_334 : decode code 334 = .ok (.iadd, 1) := by decide +kernel
theorem dW_law_335 : decode code 335 = .ok (.iaload, 1) := by decide +kernel
theorem dW_law_336 : decode code 336 = .ok (.aload_n 0, 1) := by decide +kernel
theorem dW_law_337 : decode code 337 = .ok (.iload_n 3, 1) := by decide +kernel
theorem dW_law_338 : decode code 338 = .ok (.iconst 2, 1) := by decide +kernel
theorem dW_law_339 : decode code 339 = .ok (.iadd, 1) := by decide +kernel
theorem dW_law_340 : decode code 340 = .ok (.iaload, 1) := by decide +kernel
theorem dW_law_341 : decode code 341 = .ok (.aload_n 0, 1) := by decide +kernel
theorem dW_law_342 : decode code 342 = .ok (.iload_n 3, 1) := by decide +kernel
theorem dW_law_343 : decode code 343 = .ok (.iconst 3, 1) := by decide +kernel
theorem dW_law_344 : decode code 344 = .ok (.iadd, 1) := by decide +kernel
theorem dW_law_345 : decode code 345 = .ok (.iaload, 1) := by decide +kernel
theorem dW_law_346 : decode code 346 = .ok (.aload_n 0, 1) := by decide +kernel
theorem dW_law_347 : decode code 347 = .ok (.iload_n 3, 1) := by decide +kernel
theorem dW_law_348 : decode code 348 = .ok (.iconst 4, 1) := by decide +kernel
theorem dW_law_349 : decode code 349 = .ok (.iadd, 1) := by decide +kernel
theorem dW_law_350 : decode code 350 = .ok (.iaload, 1) := by decide +kernel
theorem dW_law_351 : decode code 351 = .ok (.invokevirtual 32, 3) := by decide +kernel
theorem dW_law_354 : decode code 354 = .ok (.aload_n 2, 1) := by decide +kernel
theorem dW_law_355 : decode code 355 = .ok (.aload_n 0, 1) := by decide +kernel
theorem dW_law_356 : decode code 356 = .ok (.iload_n 3, 1) := by decide +kernel
theorem dW_law_357 : decode code 357 = .ok (.iconst 1, 1) := by decide +kernel
theorem dW_law_358 : decode code 358 = .ok (.iadd, 1) := by decide +kernel
theorem dW_law_359 : decode code 359 = .ok (.iaload, 1) := by decide +kernel
theorem dW_law_360 : decode code 360 = .ok (.aload_n 0, 1) := by decide +kernel
theorem dW_law_361 : decode code 361 = .ok (.iload_n 3, 1) := by decide +kernel
theorem dW_law_362 : decode code 362 = .ok (.iconst 2, 1) := by decide +kernel
theorem dW_law_363 : decode code 363 = .ok (.iadd, 1) := by decide +kernel
theorem dW_law_364 : decode code 364 = .ok (.iaload, 1) := by decide +kernel
theorem dW_law_365 : decode code 365 = .ok (.aload_n 0, 1) := by decide +kernel
theorem dW_law_366 : decode code 366 = .ok (.iload_n 3, 1) := by decide +kernel
theorem dW_law_367 : decode code 367 = .ok (.iconst 3, 1) := by decide +kernel
theorem dW_law_368 : decode code 368 = .ok (.iadd, 1) := by decide +kernel
theorem dW_law_369 : decode code 369 = .ok (.iaload, 1) := by decide +kernel
theorem dW_law_370 : decode code 370 = .ok (.aload_n 0, 1) := by decide +kernel
theorem dW_law_371 : decode code 371 = .ok (.iload_n 3, 1) := by decide +kernel
theorem dW_law_372 : decode code 372 = .ok (.iconst 4, 1) := by decide +kernel
theorem dW_law_373 : decode code 373 = .ok (.iadd, 1) := by decide +kernel
theorem dW_law_374 : decode code 374 = .ok (.iaload, 1) := by decide +kernel
theorem dW_law_375 : decode code 375 = .ok (.invokevirtual 35, 3) := by decide +kernel
theorem dW_law_378 : decode code 378 = .ok (.if_icmp .eq 524, 3) := by decide +kernel
theorem dW_law_381 : decode code 381 = .ok (.iconst 0, 1) := by decide +kernel
theorem dW_law_382 : decode code 382 = .ok (.ireturn, 1) := by decide +kernel
theorem dW_law_383 : decode code 383 = .ok (.aload_n 1, 1) := by decide +kernel
theorem dW_law_384 : decode code 384 = .ok (.aload_n 0, 1) := by decide +kernel
theorem dW_law_385 : decode code 385 = .ok (.iload_n 3, 1) := by decide +kernel
theorem dW_law_386 : decode code 386 = .ok (.iconst 1, 1) := by decide +kernel
theorem dW_law_387 : decode code 387 = .ok (.iadd, 1) := by decide +kernel
theorem dW_law_388 : decode code 388 = .ok (.iaload, 1) := by decide +kernel
theorem dW_law_389 : decode code 389 = .ok (.invokevirtual 36, 3) := by decide +kernel
theorem dW_law_392 : decode code 392 = .ok (.aload_n 2, 1) := by decide +kernel
theorem dW_law_393 : decode code 393 = .ok (.aload_n 0, 1) := by decide +kernel
theorem dW_law_394 : decode code 394 = .ok (.iload_n 3, 1) := by decide +kernel
theorem dW_law_395 : decode code 395 = .ok (.iconst 1, 1) := by decide +kernel
theorem dW_law_396 : decode code 396 = .ok (.iadd, 1) := by decide +kernel
theorem dW_law_397 : decode code 397 = .ok (.iaload, 1) := by decide +kernel
theorem dW_law_398 : decode code 398 = .ok (.invokevirtual 40, 3) := by decide +kernel
theorem dW_law_401 : decode code 401 = .ok (.if_icmp .eq 501, 3) := by decide +kernel
theorem dW_law_404 : decode code 404 = .ok (.iconst 0, 1) := by decide +kernel
theorem dW_law_405 : decode code 405 = .ok (.ireturn, 1) := by decide +kernel
theorem dW_law_406 : decode code 406 = .ok (.aload_n 1, 1) := by decide +kernel
theorem dW_law_407 : decode code 407 = .ok (.aload_n 0, 1) := by decide +kernel
theorem dW_law_408 : decode code 408 = .ok (.iload_n 3, 1) := by decide +kernel
theorem dW_law_409 : decode code 409 = .ok (.iconst 1, 1) := by decide +kernel
theorem dW_law_410 : decode code 410 = .ok (.iadd, 1) := by decide +kernel
theorem dW_law_411 : decode code 411 = .ok (.iaload, 1) := by decide +kernel
theorem dW_law_412 : decode code 412 = .ok (.aload_n 0, 1) := by decide +kernel
theorem dW_law_413 : decode code 413 = .ok (.iload_n 3, 1) := by decide +kernel
theorem dW_law_414 : decode code 414 = .ok (.iconst 2, 1) := by decide +kernel
theorem dW_law_415 : decode code 415 = .ok (.iadd, 1) := by decide +kernel
theorem dW_law_416 : decode code 416 = .ok (.iaload, 1) := by decide +kernel
theorem dW_law_417 : decode code 417 = .ok (.ifCond .eq 7, 3) := by decide +kernel
theorem dW_law_420 : decode code 420 = .ok (.iconst 1, 1) := by decide +kernel
theorem dW_law_421 : decode code 421 = .ok (.goto 4, 3) := by decide +kernel
theorem dW_law_424 : decode code 424 = .ok (.iconst 0, 1) := by decide +kernel
theorem dW_law_425 : decode code 425 = .ok (.invokevirtual 41, 3) := by decide +kernel
theorem dW_law_428 : decode code 428 = .ok (.aload_n 2, 1) := by decide +kernel
theorem dW_law_429 : decode code 429 = .ok (.aload_n 0, 1) := by decide +kernel
theorem dW_law_430 : decode code 430 = .ok (.iload_n 3, 1) := by decide +kernel
theorem dW_law_431 : decode code 431 = .ok (.iconst 1, 1) := by decide +kernel
theorem dW_law_432 : decode code 432 = .ok (.iadd, 1) := by decide +kernel
theorem dW_law_433 : decode code 433 = .ok (.iaload, 1) := by decide +kernel
theorem dW_law_434 : decode code 434 = .ok (.aload_n 0, 1) := by decide +kernel
theorem dW_law_435 : decode code 435 = .ok (.iload_n 3, 1) := by decide +kernel
theorem dW_law_436 : decode code 436 = .ok (.iconst 2, 1) := by decide +kernel
theorem dW_law_437 : decode code 437 = .ok (.iadd, 1) := by decide +kernel
theorem dW_law_438 : decode code 438 = .ok (.iaload, 1) := by decide +kernel
theorem dW_law_439 : decode code 439 = .ok (.ifCond .eq 7, 3) := by decide +kernel
theorem dW_law_442 : decode code 442 = .ok (.iconst 1, 1) := by decide +kernel
theorem dW_law_443 : decode code 443 = .ok (.goto 4, 3) := by decide +kernel
theorem dW_law_446 : decode code 446 = .ok (.iconst 0, 1) := by decide +kernel
theorem dW_law_447 : decode code 447 = .ok (.invokevirtual 45, 3) := by decide +kernel
theorem dW_law_450 : decode code 450 = .ok (.if_icmp .eq 452, 3) := by decide +kernel
theorem dW_law_453 : decode code 453 = .ok (.iconst 0, 1) := by decide +kernel
theorem dW_law_454 : decode code 454 = .ok (.ireturn, 1) := by decide +kernel
theorem dW_law_455 : decode code 455 = .ok (.aload_n 1, 1) := by decide +kernel
theorem dW_law_456 : decode code 456 = .ok (.aload_n 0, 1) := by decide +kernel
theorem dW_law_457 : decode code 457 = .ok (.iload_n 3, 1) := by decide +kernel
theorem dW_law_458 : decode code 458 = .ok (.iconst 1, 1) := by decide +kernel
theorem dW_law_459 : decode code 459 = .ok (.iadd, 1) := by decide +kernel
theorem dW_law_460 : decode code 460 = .ok (.iaload, 1) := by decide +kernel
theorem dW_law_461 : decode code 461 = .ok (.aload_n 0, 1) := by decide +kernel
theorem dW_law_462 : decode code 462 = .ok (.iload_n 3, 1) := by decide +kernel
theorem dW_law_463 : decode code 463 = .ok (.iconst 2, 1) := by decide +kernel
theorem dW_law_464 : decode code 464 = .ok (.iadd, 1) := by decide +kernel
theorem dW_law_465 : decode code 465 = .ok (.iaload, 1) := by decide +kernel
theorem dW_law_466 : decode code 466 = .ok (.ifCond .eq 7, 3) := by decide +kernel
theorem dW_law_469 : decode code 469 = .ok (.iconst 1, 1) := by decide +kernel
theorem dW_law_470 : decode code 470 = .ok (.goto 4, 3) := by decide +kernel
theorem dW_law_473 : decode code 473 = .ok (.iconst 0, 1) := by decide +kernel
theorem dW_law_474 : decode code 474 = .ok (.invokevirtual 46, 3) := by decide +kernel
theorem dW_law_477 : decode code 477 = .ok (.aload_n 2, 1) := by decide +kernel
theorem dW_law_478 : decode code 478 = .ok (.aload_n 0, 1) := by decide +kernel
theorem dW_law_479 : decode code 479 = .ok (.iload_n 3, 1) := by decide +kernel
theorem dW_law_480 : decode code 480 = .ok (.iconst 1, 1) := by decide +kernel
theorem dW_law_481 : decode code 481 = .ok (.iadd, 1) := by decide +kernel
theorem dW_law_482 : decode code 482 = .ok (.iaload, 1) := by decide +kernel
theorem dW_law_483 : decode code 483 = .ok (.aload_n 0, 1) := by decide +kernel
theorem dW_law_484 : decode code 484 = .ok (.iload_n 3, 1) := by decide +kernel
theorem dW_law_485 : decode code 485 = .ok (.iconst 2, 1) := by decide +kernel
theorem dW_law_486 : decode code 486 = .ok (.iadd, 1) := by decide +kernel
theorem dW_law_487 : decode code 487 = .ok (.iaload, 1) := by decide +kernel
theorem dW_law_488 : decode code 488 = .ok (.ifCond .eq 7, 3) := by decide +kernel
theorem dW_law_491 : decode code 491 = .ok (.iconst 1, 1) := by decide +kernel
theorem dW_law_492 : decode code 492 = .ok (.goto 4, 3) := by decide +kernel
theorem dW_law_495 : decode code 495 = .ok (.iconst 0, 1) := by decide +kernel
theorem dW_law_496 : decode code 496 = .ok (.invokevirtual 49, 3) := by decide +kernel
theorem dW_law_499 : decode code 499 = .ok (.if_icmp .eq 403, 3) := by decide +kernel
theorem dW_law_502 : decode code 502 = .ok (.iconst 0, 1) := by decide +kernel
theorem dW_law_503 : decode code 503 = .ok (.ireturn, 1) := by decide +kernel
theorem dW_law_504 : decode code 504 = .ok (.aload_n 1, 1) := by decide +kernel
theorem dW_law_505 : decode code 505 = .ok (.aload_n 0, 1) := by decide +kernel
theorem dW_law_506 : decode code 506 = .ok (.iload_n 3, 1) := by decide +kernel
theorem dW_law_507 : decode code 507 = .ok (.iconst 1, 1) := by decide +kernel
theorem dW_law_508 : decode code 508 = .ok (.iadd, 1) := by decide +kernel
theorem dW_law_509 : decode code 509 = .ok (.iaload, 1) := by decide +kernel
theorem dW_law_510 : decode code 510 = .ok (.invokevirtual 50, 3) := by decide +kernel
theorem dW_law_513 : decode code 513 = .ok (.aload_n 2, 1) := by decide +kernel
theorem dW_law_514 : decode code 514 = .ok (.aload_n 0, 1) := by decide +kernel
theorem dW_law_515 : decode code 515 = .ok (.iload_n 3, 1) := by decide +kernel
theorem dW_law_516 : decode code 516 = .ok (.iconst 1, 1) := by decide +kernel
theorem dW_law_517 : decode code 517 = .ok (.iadd, 1) := by decide +kernel
theorem dW_law_518 : decode code 518 = .ok (.iaload, 1) := by decide +kernel
theorem dW_law_519 : decode code 519 = .ok (.invokevirtual 54, 3) := by decide +kernel
theorem dW_law_522 : decode code 522 = .ok (.if_icmp .eq 380, 3) := by decide +kernel
theorem dW_law_525 : decode code 525 = .ok (.iconst 0, 1) := by decide +kernel
theorem dW_law_526 : decode code 526 = .ok (.ireturn, 1) := by decide +kernel
theorem dW_law_527 : decode code 527 = .ok (.aload_n 1, 1) := by decide +kernel
theorem dW_law_528 : decode code 528 = .ok (.aload_n 0, 1) := by decide +kernel
theorem dW_law_529 : decode code 529 = .ok (.iload_n 3, 1) := by decide +kernel
theorem dW_law_530 : decode code 530 = .ok (.iconst 1, 1) := by decide +kernel
theorem dW_law_531 : decode code 531 = .ok (.iadd, 1) := by decide +kernel
theorem dW_law_532 : decode code 532 = .ok (.iaload, 1) := by decide +kernel
theorem dW_law_533 : decode code 533 = .ok (.invokevirtual 55, 3) := by decide +kernel
theorem dW_law_536 : decode code 536 = .ok (.aload_n 2, 1) := by decide +kernel
theorem dW_law_537 : decode code 537 = .ok (.aload_n 0, 1) := by decide +kernel
theorem dW_law_538 : decode code 538 = .ok (.iload_n 3, 1) := by decide +kernel
theorem dW_law_539 : decode code 539 = .ok (.iconst 1, 1) := by decide +kernel
theorem dW_law_540 : decode code 540 = .ok (.iadd, 1) := by decide +kernel
theorem dW_law_541 : decode code 541 = .ok (.iaload, 1) := by decide +kernel
theorem dW_law_542 : decode code 542 = .ok (.invokevirtual 58, 3) := by decide +kernel
theorem dW_law_545 : decode code 545 = .ok (.if_icmp .eq 357, 3) := by decide +kernel
theorem dW_law_548 : decode code 548 = .ok (.iconst 0, 1) := by decide +kernel
theorem dW_law_549 : decode code 549 = .ok (.ireturn, 1) := by decide +kernel
theorem dW_law_550 : decode code 550 = .ok (.aload_n 1, 1) := by decide +kernel
theorem dW_law_551 : decode code 551 = .ok (.aload_n 0, 1) := by decide +kernel
theorem dW_law_552 : decode code 552 = .ok (.iload_n 3, 1) := by decide +kernel
theorem dW_law_553 : decode code 553 = .ok (.iconst 1, 1) := by decide +kernel
theorem dW_law_554 : decode code 554 = .ok (.iadd, 1) := by decide +kernel
theorem dW_law_555 : decode code 555 = .ok (.iaload, 1) := by decide +kernel
theorem dW_law_556 : decode code 556 = .ok (.aload_n 0, 1) := by decide +kernel
theorem dW_law_557 : decode code 557 = .ok (.iload_n 3, 1) := by decide +kernel
theorem dW_law_558 : decode code 558 = .ok (.iconst 2, 1) := by decide +kernel
theorem dW_law_559 : decode code 559 = .ok (.iadd, 1) := by decide +kernel
theorem dW_law_560 : decode code 560 = .ok (.iaload, 1) := by decide +kernel
theorem dW_law_561 : decode code 561 = .ok (.aload_n 0, 1) := by decide +kernel
theorem dW_law_562 : decode code 562 = .ok (.iload_n 3, 1) := by decide +kernel
theorem dW_law_563 : decode code 563 = .ok (.iconst 3, 1) := by decide +kernel
theorem dW_law_564 : decode code 564 = .ok (.iadd, 1) := by decide +kernel
theorem dW_law_565 : decode code 565 = .ok (.iaload, 1) := by decide +kernel
theorem dW_law_566 : decode code 566 = .ok (.ifCond .eq 7, 3) := by decide +kernel
theorem dW_law_569 : decode code 569 = .ok (.iconst 1, 1) := by decide +kernel
theorem dW_law_570 : decode code 570 = .ok (.goto 4, 3) := by decide +kernel
theorem dW_law_573 : decode code 573 = .ok (.iconst 0, 1) := by decide +kernel
theorem dW_law_574 : decode code 574 = .ok (.invokevirtual 59, 3) := by decide +kernel
theorem dW_law_577 : decode code 577 = .ok (.aload_n 2, 1) := by decide +kernel
theorem dW_law_578 : decode code 578 = .ok (.aload_n 0, 1) := by decide +kernel
theorem dW_law_579 : decode code 579 = .ok (.iload_n 3, 1) := by decide +kernel
theorem dW_law_580 : decode code 580 = .ok (.iconst 1, 1) := by decide +kernel
theorem dW_law_581 : decode code 581 = .ok (.iadd, 1) := by decide +kernel
theorem dW_law_582 : decode code 582 = .ok (.iaload, 1) := by decide +kernel
theorem dW_law_583 : decode code 583 = .ok (.aload_n 0, 1) := by decide +kernel
theorem dW_law_584 : decode code 584 = .ok (.iload_n 3, 1) := by decide +kernel
theorem dW_law_585 : decode code 585 = .ok (.iconst 2, 1) := by decide +kernel
theorem dW_law_586 : decode code 586 = .ok (.iadd, 1) := by decide +kernel
theorem dW_law_587 : decode code 587 = .ok (.iaload, 1) := by decide +kernel
theorem dW_law_588 : decode code 588 = .ok (.aload_n 0, 1) := by decide +kernel
theorem dW_law_589 : decode code 589 = .ok (.iload_n 3, 1) := by decide +kernel
theorem dW_law_590 : decode code 590 = .ok (.iconst 3, 1) := by decide +kernel
theorem dW_law_591 : decode code 591 = .ok (.iadd, 1) := by decide +kernel
theorem dW_law_592 : decode code 592 = .ok (.iaload, 1) := by decide +kernel
theorem dW_law_593 : decode code 593 = .ok (.ifCond .eq 7, 3) := by decide +kernel
theorem dW_law_596 : decode code 596 = .ok (.iconst 1, 1) := by decide +kernel
theorem dW_law_597 : decode code 597 = .ok (.goto 4, 3) := by decide +kernel
theorem dW_law_600 : decode code 600 = .ok (.iconst 0, 1) := by decide +kernel
theorem dW_law_601 : decode code 601 = .ok (.invokevirtual 63, 3) := by decide +kernel
theorem dW_law_604 : decode code 604 = .ok (.if_icmp .eq 298, 3) := by decide +kernel
theorem dW_law_607 : decode code 607 = .ok (.iconst 0, 1) := by decide +kernel
theorem dW_law_608 : decode code 608 = .ok (.ireturn, 1) := by decide +kernel
theorem dW_law_609 : decode code 609 = .ok (.aload_n 1, 1) := by decide +kernel
theorem dW_law_610 : decode code 610 = .ok (.aload_n 0, 1) := by decide +kernel
theorem dW_law_611 : decode code 611 = .ok (.iload_n 3, 1) := by decide +kernel
theorem dW_law_612 : decode code 612 = .ok (.iconst 1, 1) := by decide +kernel
theorem dW_law_613 : decode code 613 = .ok (.iadd, 1) := by decide +kernel
theorem dW_law_614 : decode code 614 = .ok (.iaload, 1) := by decide +kernel
theorem dW_law_615 : decode code 615 = .ok (.invokevirtual 64, 3) := by decide +kernel
theorem dW_law_618 : decode code 618 = .ok (.aload_n 2, 1) := by decide +kernel
theorem dW_law_619 : decode code 619 = .ok (.aload_n 0, 1) := by decide +kernel
theorem dW_law_620 : decode code 620 = .ok (.iload_n 3, 1) := by decide +kernel
theorem dW_law_621 : decode code 621 = .ok (.iconst 1, 1) := by decide +kernel
theorem dW_law_622 : decode code 622 = .ok (.iadd, 1) := by decide +kernel
theorem dW_law_623 : decode code 623 = .ok (.iaload, 1) := by decide +kernel
theorem dW_law_624 : decode code 624 = .ok (.invokevirtual 67, 3) := by decide +kernel
theorem dW_law_627 : decode code 627 = .ok (.if_icmp .eq 275, 3) := by decide +kernel
theorem dW_law_630 : decode code 630 = .ok (.iconst 0, 1) := by decide +kernel
theorem dW_law_631 : decode code 631 = .ok (.ireturn, 1) := by decide +kernel
theorem dW_law_632 : decode code 632 = .ok (.aload_n 1, 1) := by decide +kernel
theorem dW_law_633 : decode code 633 = .ok (.aload_n 0, 1) := by decide +kernel
theorem dW_law_634 : decode code 634 = .ok (.iload_n 3, 1) := by decide +kernel
theorem dW_law_635 : decode code 635 = .ok (.iconst 1, 1) := by decide +kernel
theorem dW_law_636 : decode code 636 = .ok (.iadd, 1) := by decide +kernel
theorem dW_law_637 : decode code 637 = .ok (.iaload, 1) := by decide +kernel
theorem dW_law_638 : decode code 638 = .ok (.aload_n 0, 1) := by decide +kernel
theorem dW_law_639 : decode code 639 = .ok (.iload_n 3, 1) := by decide +kernel
theorem dW_law_640 : decode code 640 = .ok (.iconst 2, 1) := by decide +kernel
theorem dW_law_641 : decode code 641 = .ok (.iadd, 1) := by decide +kernel
theorem dW_law_642 : decode code 642 = .ok (.iaload, 1) := by decide +kernel
theorem dW_law_643 : decode code 643 = .ok (.ifCond .eq 7, 3) := by decide +kernel
theorem dW_law_646 : decode code 646 = .ok (.iconst 1, 1) := by decide +kernel
theorem dW_law_647 : decode code 647 = .ok (.goto 4, 3) := by decide +kernel
theorem dW_law_650 : decode code 650 = .ok (.iconst 0, 1) := by decide +kernel
theorem dW_law_651 : decode code 651 = .ok (.invokevirtual 68, 3) := by decide +kernel
theorem dW_law_654 : decode code 654 = .ok (.aload_n 2, 1) := by decide +kernel
theorem dW_law_655 : decode code 655 = .ok (.aload_n 0, 1) := by decide +kernel
theorem dW_law_656 : decode code 656 = .ok (.iload_n 3, 1) := by decide +kernel
theorem dW_law_657 : decode code 657 = .ok (.iconst 1, 1) := by decide +kernel
theorem dW_law_658 : decode code 658 = .ok (.iadd, 1) := by decide +kernel
theorem dW_law_659 : decode code 659 = .ok (.iaload, 1) := by decide +kernel
theorem dW_law_660 : decode code 660 = .ok (.aload_n 0, 1) := by decide +kernel
theorem dW_law_661 : decode code 661 = .ok (.iload_n 3, 1) := by decide +kernel
theorem dW_law_662 : decode code 662 = .ok (.iconst 2, 1) := by decide +kernel
theorem dW_law_663 : decode code 663 = .ok (.iadd, 1) := by decide +kernel
theorem dW_law_664 : decode code 664 = .ok (.iaload, 1) := by decide +kernel
theorem dW_law_665 : decode code 665 = .ok (.ifCond .eq 7, 3) := by decide +kernel
theorem dW_law_668 : decode code 668 = .ok (.iconst 1, 1) := by decide +kernel
theorem dW_law_669 : decode code 669 = .ok (.goto 4, 3) := by decide +kernel
theorem dW_law_672 : decode code 672 = .ok (.iconst 0, 1) := by decide +kernel
theorem dW_law_673 : decode code 673 = .ok (.invokevirtual 71, 3) := by decide +kernel
theorem dW_law_676 : decode code 676 = .ok (.if_icmp .eq 226, 3) := by decide +kernel
theorem dW_law_679 : decode code 679 = .ok (.iconst 0, 1) := by decide +kernel
theorem dW_law_680 : decode code 680 = .ok (.ireturn, 1) := by decide +kernel
theorem dW_law_681 : decode code 681 = .ok (.aload_n 1, 1) := by decide +kernel
theorem dW_law_682 : decode code 682 = .ok (.aload_n 0, 1) := by decide +kernel
theorem dW_law_683 : decode code 683 = .ok (.iload_n 3, 1) := by decide +kernel
theorem dW_law_684 : decode code 684 = .ok (.iconst 1, 1) := by decide +kernel
theorem dW_law_685 : decode code 685 = .ok (.iadd, 1) := by decide +kernel
theorem dW_law_686 : decode code 686 = .ok (.iaload, 1) := by decide +kernel
theorem dW_law_687 : decode code 687 = .ok (.invokevirtual 72, 3) := by decide +kernel
theorem dW_law_690 : decode code 690 = .ok (.aload_n 2, 1) := by decide +kernel
theorem dW_law_691 : decode code 691 = .ok (.aload_n 0, 1) := by decide +kernel
theorem dW_law_692 : decode code 692 = .ok (.iload_n 3, 1) := by decide +kernel
theorem dW_law_693 : decode code 693 = .ok (.iconst 1, 1) := by decide +kernel
theorem dW_law_694 : decode code 694 = .ok (.iadd, 1) := by decide +kernel
theorem dW_law_695 : decode code 695 = .ok (.iaload, 1) := by decide +kernel
theorem dW_law_696 : decode code 696 = .ok (.invokevirtual 75, 3) := by decide +kernel
theorem dW_law_699 : decode code 699 = .ok (.if_icmp .eq 203, 3) := by decide +kernel
theorem dW_law_702 : decode code 702 = .ok (.iconst 0, 1) := by decide +kernel
theorem dW_law_703 : decode code 703 = .ok (.ireturn, 1) := by decide +kernel
theorem dW_law_704 : decode code 704 = .ok (.aload_n 1, 1) := by decide +kernel
theorem dW_law_705 : decode code 705 = .ok (.aload_n 0, 1) := by decide +kernel
theorem dW_law_706 : decode code 706 = .ok (.iload_n 3, 1) := by decide +kernel
theorem dW_law_707 : decode code 707 = .ok (.iconst 1, 1) := by decide +kernel
theorem dW_law_708 : decode code 708 = .ok (.iadd, 1) := by decide +kernel
theorem dW_law_709 : decode code 709 = .ok (.iaload, 1) := by decide +kernel
theorem dW_law_710 : decode code 710 = .ok (.aload_n 0, 1) := by decide +kernel
theorem dW_law_711 : decode code 711 = .ok (.iload_n 3, 1) := by decide +kernel
theorem dW_law_712 : decode code 712 = .ok (.iconst 2, 1) := by decide +kernel
theorem dW_law_713 : decode code 713 = .ok (.iadd, 1) := by decide +kernel
theorem dW_law_714 : decode code 714 = .ok (.iaload, 1) := by decide +kernel
theorem dW_law_715 : decode code 715 = .ok (.invokevirtual 76, 3) := by decide +kernel
theorem dW_law_718 : decode code 718 = .ok (.aload_n 2, 1) := by decide +kernel
theorem dW_law_719 : decode code 719 = .ok (.aload_n 0, 1) := by decide +kernel
theorem dW_law_720 : decode code 720 = .ok (.iload_n 3, 1) := by decide +kernel
theorem dW_law_721 : decode code 721 = .ok (.iconst 1, 1) := by decide +kernel
theorem dW_law_722 : decode code 722 = .ok (.iadd, 1) := by decide +kernel
theorem dW_law_723 : decode code 723 = .ok (.iaload, 1) := by decide +kernel
theorem dW_law_724 : decode code 724 = .ok (.aload_n 0, 1) := by decide +kernel
theorem dW_law_725 : decode code 725 = .ok (.iload_n 3, 1) := by decide +kernel
theorem dW_law_726 : decode code 726 = .ok (.iconst 2, 1) := by decide +kernel
theorem dW_law_727 : decode code 727 = .ok (.iadd, 1) := by decide +kernel
theorem dW_law_728 : decode code 728 = .ok (.iaload, 1) := by decide +kernel
theorem dW_law_729 : decode code 729 = .ok (.invokevirtual 80, 3) := by decide +kernel
theorem dW_law_732 : decode code 732 = .ok (.if_icmp .eq 170, 3) := by decide +kernel
theorem dW_law_735 : decode code 735 = .ok (.iconst 0, 1) := by decide +kernel
theorem dW_law_736 : decode code 736 = .ok (.ireturn, 1) := by decide +kernel
theorem dW_law_737 : decode code 737 = .ok (.aload_n 1, 1) := by decide +kernel
theorem dW_law_738 : decode code 738 = .ok (.aload_n 0, 1) := by decide +kernel
theorem dW_law_739 : decode code 739 = .ok (.iload_n 3, 1) := by decide +kernel
theorem dW_law_740 : decode code 740 = .ok (.iconst 1, 1) := by decide +kernel
theorem dW_law_741 : decode code 741 = .ok (.iadd, 1) := by decide +kernel
theorem dW_law_742 : decode code 742 = .ok (.iaload, 1) := by decide +kernel
theorem dW_law_743 : decode code 743 = .ok (.aload_n 0, 1) := by decide +kernel
theorem dW_law_744 : decode code 744 = .ok (.iload_n 3, 1) := by decide +kernel
theorem dW_law_745 : decode code 745 = .ok (.iconst 2, 1) := by decide +kernel
theorem dW_law_746 : decode code 746 = .ok (.iadd, 1) := by decide +kernel
theorem dW_law_747 : decode code 747 = .ok (.iaload, 1) := by decide +kernel
theorem dW_law_748 : decode code 748 = .ok (.invokevirtual 81, 3) := by decide +kernel
theorem dW_law_751 : decode code 751 = .ok (.aload_n 2, 1) := by decide +kernel
theorem dW_law_752 : decode code 752 = .ok (.aload_n 0, 1) := by decide +kernel
theorem dW_law_753 : decode code 753 = .ok (.iload_n 3, 1) := by decide +kernel
theorem dW_law_754 : decode code 754 = .ok (.iconst 1, 1) := by decide +kernel
theorem dW_law_755 : decode code 755 = .ok (.iadd, 1) := by decide +kernel
theorem dW_law_756 : decode code 756 = .ok (.iaload, 1) := by decide +kernel
theorem dW_law_757 : decode code 757 = .ok (.aload_n 0, 1) := by decide +kernel
theorem dW_law_758 : decode code 758 = .ok (.iload_n 3, 1) := by decide +kernel
theorem dW_law_759 : decode code 759 = .ok (.iconst 2, 1) := by decide +kernel
theorem dW_law_760 : decode code 760 = .ok (.iadd, 1) := by decide +kernel
theorem dW_law_761 : decode code 761 = .ok (.iaload, 1) := by decide +kernel
theorem dW_law_762 : decode code 762 = .ok (.invokevirtual 84, 3) := by decide +kernel
theorem dW_law_765 : decode code 765 = .ok (.if_icmp .eq 137, 3) := by decide +kernel
theorem dW_law_768 : decode code 768 = .ok (.iconst 0, 1) := by decide +kernel
theorem dW_law_769 : decode code 769 = .ok (.ireturn, 1) := by decide +kernel
theorem dW_law_770 : decode code 770 = .ok (.aload_n 1, 1) := by decide +kernel
theorem dW_law_771 : decode code 771 = .ok (.aload_n 0, 1) := by decide +kernel
theorem dW_law_772 : decode code 772 = .ok (.iload_n 3, 1) := by decide +kernel
theorem dW_law_773 : decode code 773 = .ok (.iconst 1, 1) := by decide +kernel
theorem dW_law_774 : decode code 774 = .ok (.iadd, 1) := by decide +kernel
theorem dW_law_775 : decode code 775 = .ok (.iaload, 1) := by decide +kernel
theorem dW_law_776 : decode code 776 = .ok (.aload_n 0, 1) := by decide +kernel
theorem dW_law_777 : decode code 777 = .ok (.iload_n 3, 1) := by decide +kernel
theorem dW_law_778 : decode code 778 = .ok (.iconst 2, 1) := by decide +kernel
theorem dW_law_779 : decode code 779 = .ok (.iadd, 1) := by decide +kernel
theorem dW_law_780 : decode code 780 = .ok (.iaload, 1) := by decide +kernel
theorem dW_law_781 : decode code 781 = .ok (.invokevirtual 85, 3) := by decide +kernel
theorem dW_law_784 : decode code 784 = .ok (.aload_n 2, 1) := by decide +kernel
theorem dW_law_785 : decode code 785 = .ok (.aload_n 0, 1) := by decide +kernel
theorem dW_law_786 : decode code 786 = .ok (.iload_n 3, 1) := by decide +kernel
theorem dW_law_787 : decode code 787 = .ok (.iconst 1, 1) := by decide +kernel
theorem dW_law_788 : decode code 788 = .ok (.iadd, 1) := by decide +kernel
theorem dW_law_789 : decode code 789 = .ok (.iaload, 1) := by decide +kernel
theorem dW_law_790 : decode code 790 = .ok (.aload_n 0, 1) := by decide +kernel
theorem dW_law_791 : decode code 791 = .ok (.iload_n 3, 1) := by decide +kernel
theorem dW_law_792 : decode code 792 = .ok (.iconst 2, 1) := by decide +kernel
theorem dW_law_793 : decode code 793 = .ok (.iadd, 1) := by decide +kernel
theorem dW_law_794 : decode code 794 = .ok (.iaload, 1) := by decide +kernel
theorem dW_law_795 : decode code 795 = .ok (.invokevirtual 88, 3) := by decide +kernel
theorem dW_law_798 : decode code 798 = .ok (.if_icmp .eq 104, 3) := by decide +kernel
theorem dW_law_801 : decode code 801 = .ok (.iconst 0, 1) := by decide +kernel
theorem dW_law_802 : decode code 802 = .ok (.ireturn, 1) := by decide +kernel
theorem dW_law_803 : decode code 803 = .ok (.aload_n 1, 1) := by decide +kernel
theorem dW_law_804 : decode code 804 = .ok (.aload_n 0, 1) := by decide +kernel
theorem dW_law_805 : decode code 805 = .ok (.iload_n 3, 1) := by decide +kernel
theorem dW_law_806 : decode code 806 = .ok (.iconst 1, 1) := by decide +kernel
theorem dW_law_807 : decode code 807 = .ok (.iadd, 1) := by decide +kernel
theorem dW_law_808 : decode code 808 = .ok (.iaload, 1) := by decide +kernel
theorem dW_law_809 : decode code 809 = .ok (.aload_n 0, 1) := by decide +kernel
theorem dW_law_810 : decode code 810 = .ok (.iload_n 3, 1) := by decide +kernel
theorem dW_law_811 : decode code 811 = .ok (.iconst 2, 1) := by decide +kernel
theorem dW_law_812 : decode code 812 = .ok (.iadd, 1) := by decide +kernel
theorem dW_law_813 : decode code 813 = .ok (.iaload, 1) := by decide +kernel
theorem dW_law_814 : decode code 814 = .ok (.invokevirtual 89, 3) := by decide +kernel
theorem dW_law_817 : decode code 817 = .ok (.aload_n 2, 1) := by decide +kernel
theorem dW_law_818 : decode code 818 = .ok (.aload_n 0, 1) := by decide +kernel
theorem dW_law_819 : decode code 819 = .ok (.iload_n 3, 1) := by decide +kernel
theorem dW_law_820 : decode code 820 = .ok (.iconst 1, 1) := by decide +kernel
theorem dW_law_821 : decode code 821 = .ok (.iadd, 1) := by decide +kernel
theorem dW_law_822 : decode code 822 = .ok (.iaload, 1) := by decide +kernel
theorem dW_law_823 : decode code 823 = .ok (.aload_n 0, 1) := by decide +kernel
theorem dW_law_824 : decode code 824 = .ok (.iload_n 3, 1) := by decide +kernel
theorem dW_law_825 : decode code 825 = .ok (.iconst 2, 1) := by decide +kernel
theorem dW_law_826 : decode code 826 = .ok (.iadd, 1) := by decide +kernel
theorem dW_law_827 : decode code 827 = .ok (.iaload, 1) := by decide +kernel
theorem dW_law_828 : decode code 828 = .ok (.invokevirtual 92, 3) := by decide +kernel
theorem dW_law_831 : decode code 831 = .ok (.if_icmp .eq 71, 3) := by decide +kernel
theorem dW_law_834 : decode code 834 = .ok (.iconst 0, 1) := by decide +kernel
theorem dW_law_835 : decode code 835 = .ok (.ireturn, 1) := by decide +kernel
theorem dW_law_836 : decode code 836 = .ok (.aload_n 1, 1) := by decide +kernel
theorem dW_law_837 : decode code 837 = .ok (.aload_n 0, 1) := by decide +kernel
theorem dW_law_838 : decode code 838 = .ok (.iload_n 3, 1) := by decide +kernel
theorem dW_law_839 : decode code 839 = .ok (.iconst 1, 1) := by decide +kernel
theorem dW_law_840 : decode code 840 = .ok (.iadd, 1) := by decide +kernel
theorem dW_law_841 : decode code 841 = .ok (.iaload, 1) := by decide +kernel
theorem dW_law_842 : decode code 842 = .ok (.invokevirtual 93, 3) := by decide +kernel
theorem dW_law_845 : decode code 845 = .ok (.aload_n 2, 1) := by decide +kernel
theorem dW_law_846 : decode code 846 = .ok (.aload_n 0, 1) := by decide +kernel
theorem dW_law_847 : decode code 847 = .ok (.iload_n 3, 1) := by decide +kernel
theorem dW_law_848 : decode code 848 = .ok (.iconst 1, 1) := by decide +kernel
theorem dW_law_849 : decode code 849 = .ok (.iadd, 1) := by decide +kernel
theorem dW_law_850 : decode code 850 = .ok (.iaload, 1) := by decide +kernel
theorem dW_law_851 : decode code 851 = .ok (.invokevirtual 96, 3) := by decide +kernel
theorem dW_law_854 : decode code 854 = .ok (.if_icmp .eq 48, 3) := by decide +kernel
theorem dW_law_857 : decode code 857 = .ok (.iconst 0, 1) := by decide +kernel
theorem dW_law_858 : decode code 858 = .ok (.ireturn, 1) := by decide +kernel
theorem dW_law_859 : decode code 859 = .ok (.aload_n 1, 1) := by decide +kernel
theorem dW_law_860 : decode code 860 = .ok (.aload_n 0, 1) := by decide +kernel
theorem dW_law_861 : decode code 861 = .ok (.iload_n 3, 1) := by decide +kernel
theorem dW_law_862 : decode code 862 = .ok (.iconst 1, 1) := by decide +kernel
theorem dW_law_863 : decode code 863 = .ok (.iadd, 1) := by decide +kernel
theorem dW_law_864 : decode code 864 = .ok (.iaload, 1) := by decide +kernel
theorem dW_law_865 : decode code 865 = .ok (.aload_n 0, 1) := by decide +kernel
theorem dW_law_866 : decode code 866 = .ok (.iload_n 3, 1) := by decide +kernel
theorem dW_law_867 : decode code 867 = .ok (.iconst 2, 1) := by decide +kernel
theorem dW_law_868 : decode code 868 = .ok (.iadd, 1) := by decide +kernel
theorem dW_law_869 : decode code 869 = .ok (.iaload, 1) := by decide +kernel
theorem dW_law_870 : decode code 870 = .ok (.aload_n 0, 1) := by decide +kernel
theorem dW_law_871 : decode code 871 = .ok (.iload_n 3, 1) := by decide +kernel
theorem dW_law_872 : decode code 872 = .ok (.iconst 3, 1) := by decide +kernel
theorem dW_law_873 : decode code 873 = .ok (.iadd, 1) := by decide +kernel
theorem dW_law_874 : decode code 874 = .ok (.iaload, 1) := by decide +kernel
theorem dW_law_875 : decode code 875 = .ok (.invokevirtual 97, 3) := by decide +kernel
theorem dW_law_878 : decode code 878 = .ok (.aload_n 2, 1) := by decide +kernel
theorem dW_law_879 : decode code 879 = .ok (.aload_n 0, 1) := by decide +kernel
theorem dW_law_880 : decode code 880 = .ok (.iload_n 3, 1) := by decide +kernel
theorem dW_law_881 : decode code 881 = .ok (.iconst 1, 1) := by decide +kernel
theorem dW_law_882 : decode code 882 = .ok (.iadd, 1) := by decide +kernel
theorem dW_law_883 : decode code 883 = .ok (.iaload, 1) := by decide +kernel
theorem dW_law_884 : decode code 884 = .ok (.aload_n 0, 1) := by decide +kernel
theorem dW_law_885 : decode code 885 = .ok (.iload_n 3, 1) := by decide +kernel
theorem dW_law_886 : decode code 886 = .ok (.iconst 2, 1) := by decide +kernel
theorem dW_law_887 : decode code 887 = .ok (.iadd, 1) := by decide +kernel
theorem dW_law_888 : decode code 888 = .ok (.iaload, 1) := by decide +kernel
theorem dW_law_889 : decode code 889 = .ok (.aload_n 0, 1) := by decide +kernel
theorem dW_law_890 : decode code 890 = .ok (.iload_n 3, 1) := by decide +kernel
theorem dW_law_891 : decode code 891 = .ok (.iconst 3, 1) := by decide +kernel
theorem dW_law_892 : decode code 892 = .ok (.iadd, 1) := by decide +kernel
theorem dW_law_893 : decode code 893 = .ok (.iaload, 1) := by decide +kernel
theorem dW_law_894 : decode code 894 = .ok (.invokevirtual 100, 3) := by decide +kernel
theorem dW_law_897 : decode code 897 = .ok (.if_icmp .eq 5, 3) := by decide +kernel
theorem dW_law_900 : decode code 900 = .ok (.iconst 0, 1) := by decide +kernel
theorem dW_law_901 : decode code 901 = .ok (.ireturn, 1) := by decide +kernel
theorem dW_law_902 : decode code 902 = .ok (.iinc 3 6, 3) := by decide +kernel
theorem dW_law_905 : decode code 905 = .ok (.goto (-887), 3) := by decide +kernel
theorem dW_law_908 : decode code 908 = .ok (.iconst 1, 1) := by decide +kernel
theorem dW_law_909 : decode code 909 = .ok (.ireturn, 1) := by decide +kernel
end
section
-- links of fields and calls, for the rules (written by wip/whole/mklinks.py)
theorem fB_9 : z_F "NotaryHall$Mailbox" 9 2 0 := ⟨"NotaryHall$Mailbox", zTB, 2, rfl, by decide, zLB, wfB_9⟩
theorem fB_15 : z_F "NotaryHall$Mailbox" 15 2 1 := ⟨"NotaryHall$Mailbox", zTB, 2, rfl, by decide, zLB, wfB_15⟩
theorem fH_11 : z_F "NotaryHall" 11 0 0 := ⟨"NotaryHall", zTH, 8, rfl, by decide, zLH, wfH_11⟩
theorem fH_17 : z_F "NotaryHall" 17 0 2 := ⟨"NotaryHall", zTH, 8, rfl, by decide, zLH, wfH_17⟩
theorem fH_25 : z_F "NotaryHall" 25 0 3 := ⟨"NotaryHall", zTH, 8, rfl, by decide, zLH, wfH_25⟩
theorem fH_29 : z_F "NotaryHall" 29 0 4 := ⟨"NotaryHall", zTH, 8, rfl, by decide, zLH, wfH_29⟩
theorem fH_39 : z_F "NotaryHall" 39 0 5 := ⟨"NotaryHall", zTH, 8, rfl, by decide, zLH, wfH_39⟩
theorem fH_42 : z_F "NotaryHall" 42 0 6 := ⟨"NotaryHall", zTH, 8, rfl, by decide, zLH, wfH_42⟩
theorem fH_53 : z_F "NotaryHall" 53 0 1 := ⟨"NotaryHall", zTH, 8, rfl, by decide, zLH, wfH_53⟩
theorem fH_68 : z_F "NotaryHall" 68 3 8 := ⟨"NotaryHall$Transaction", zTT, 15, rfl, by decide, zLT, wfH_68⟩
theorem fH_71 : z_F "NotaryHall" 71 3 1 := ⟨"NotaryHall$Transaction", zTT, 15, rfl, by decide, zLT, wfH_71⟩
theorem fH_74 : z_F "NotaryHall" 74 1 0 := ⟨"NotaryHall$Node", zTN, 4, rfl, by decide, zLN, wfH_74⟩
theorem fH_81 : z_F "NotaryHall" 81 3 2 := ⟨"NotaryHall$Transaction", zTT, 15, rfl, by decide, zLT, wfH_81⟩
theorem fH_84 : z_F "NotaryHall" 84 3 5 := ⟨"NotaryHall$Transaction", zTT, 15, rfl, by decide, zLT, wfH_84⟩
theorem fH_88 : z_F "NotaryHall" 88 5 0 := ⟨"NotaryHall$State", zTS, 6, rfl, by decide, zLS, wfH_88⟩
theorem fH_112 : z_F "NotaryHall" 112 3 6 := ⟨"NotaryHall$Transaction", zTT, 15, rfl, by decide, zLT, wfH_112⟩
theorem fH_134 : z_F "NotaryHall" 134 5 4 := ⟨"NotaryHall$State", zTS, 6, rfl, by decide, zLS, wfH_134⟩
theorem fH_156 : z_F "NotaryHall" 156 3 9 := ⟨"NotaryHall$Transaction", zTT, 15, rfl, by decide, zLT, wfH_156⟩
theorem fH_166 : z_F "NotaryHall" 166 2 0 := ⟨"NotaryHall$Mailbox", zTB, 2, rfl, by decide, zLB, wfH_166⟩
theorem fH_177 : z_F "NotaryHall" 177 2 1 := ⟨"NotaryHall$Mailbox", zTB, 2, rfl, by decide, zLB, wfH_177⟩
theorem fH_180 : z_F "NotaryHall" 180 0 7 := ⟨"NotaryHall", zTH, 8, rfl, by decide, zLH, wfH_180⟩
theorem fH_183 : z_F "NotaryHall" 183 1 3 := ⟨"NotaryHall$Node", zTN, 4, rfl, by decide, zLN, wfH_183⟩
theorem fH_193 : z_F "NotaryHall" 193 3 11 := ⟨"NotaryHall$Transaction", zTT, 15, rfl, by decide, zLT, wfH_193⟩
theorem fH_196 : z_F "NotaryHall" 196 3 14 := ⟨"NotaryHall$Transaction", zTT, 15, rfl, by decide, zLT, wfH_196⟩
theorem fH_199 : z_F "NotaryHall" 199 1 1 := ⟨"NotaryHall$Node", zTN, 4, rfl, by decide, zLN, wfH_199⟩
theorem fH_209 : z_F "NotaryHall" 209 1 2 := ⟨"NotaryHall$Node", zTN, 4, rfl, by decide, zLN, wfH_209⟩
theorem fH_255 : z_F "NotaryHall" 255 3 13 := ⟨"NotaryHall$Transaction", zTT, 15, rfl, by decide, zLT, wfH_255⟩
theorem fH_258 : z_F "NotaryHall" 258 3 7 := ⟨"NotaryHall$Transaction", zTT, 15, rfl, by decide, zLT, wfH_258⟩
theorem fH_281 : z_F "NotaryHall" 281 3 0 := ⟨"NotaryHall$Transaction", zTT, 15, rfl, by decide, zLT, wfH_281⟩
theorem fH_282 : z_F "NotaryHall" 282 3 10 := ⟨"NotaryHall$Transaction", zTT, 15, rfl, by decide, zLT, wfH_282⟩
theorem fH_289 : z_F "NotaryHall" 289 3 3 := ⟨"NotaryHall$Transaction", zTT, 15, rfl, by decide, zLT, wfH_289⟩
theorem fH_292 : z_F "NotaryHall" 292 3 4 := ⟨"NotaryHall$Transaction", zTT, 15, rfl, by decide, zLT, wfH_292⟩
theorem fH_299 : z_F "NotaryHall" 299 4 1 := ⟨"NotaryHall$StateList", zTL, 2, rfl, by decide, zLL, wfH_299⟩
theorem fH_300 : z_F "NotaryHall" 300 4 0 := ⟨"NotaryHall$StateList", zTL, 2, rfl, by decide, zLL, wfH_300⟩
theorem fL_11 : z_F "NotaryHall$StateList" 11 4 0 := ⟨"NotaryHall$StateList", zTL, 2, rfl, by decide, zLL, wfL_11⟩
theorem fL_17 : z_F "NotaryHall$StateList" 17 4 1 := ⟨"NotaryHall$StateList", zTL, 2, rfl, by decide, zLL, wfL_17⟩
theorem fL_21 : z_F "NotaryHall$StateList" 21 5 0 := ⟨"NotaryHall$State", zTS, 6, rfl, by decide, zLS, wfL_21⟩
theorem fL_31 : z_F "NotaryHall$StateList" 31 5 4 := ⟨"NotaryHall$State", zTS, 6, rfl, by decide, zLS, wfL_31⟩
theorem fN_19 : z_F "NotaryHall$Node" 19 1 2 := ⟨"NotaryHall$Node", zTN, 4, rfl, by decide, zLN, wfN_19⟩
theorem fN_22 : z_F "NotaryHall$Node" 22 1 0 := ⟨"NotaryHall$Node", zTN, 4, rfl, by decide, zLN, wfN_22⟩
theorem fN_30 : z_F "NotaryHall$Node" 30 1 1 := ⟨"NotaryHall$Node", zTN, 4, rfl, by decide, zLN, wfN_30⟩
theorem fR_7 : z_F "NotaryHallModel" 7 6 1 := ⟨"NotaryHallModel", zTR, 27, rfl, by decide, zLR, wfR_7⟩
theorem fR_13 : z_F "NotaryHallModel" 13 6 2 := ⟨"NotaryHallModel", zTR, 27, rfl, by decide, zLR, wfR_13⟩
theorem fR_16 : z_F "NotaryHallModel" 16 6 3 := ⟨"NotaryHallModel", zTR, 27, rfl, by decide, zLR, wfR_16⟩
theorem fR_19 : z_F "NotaryHallModel" 19 6 4 := ⟨"NotaryHallModel", zTR, 27, rfl, by decide, zLR, wfR_19⟩
theorem fR_22 : z_F "NotaryHallModel" 22 6 5 := ⟨"NotaryHallModel", zTR, 27, rfl, by decide, zLR, wfR_22⟩
theorem fR_25 : z_F "NotaryHallModel" 25 6 6 := ⟨"NotaryHallModel", zTR, 27, rfl, by decide, zLR, wfR_25⟩
theorem fR_29 : z_F "NotaryHallModel" 29 6 7 := ⟨"NotaryHallModel", zTR, 27, rfl, by decide, zLR, wfR_29⟩
theorem fR_32 : z_F "NotaryHallModel" 32 6 8 := ⟨"NotaryHallModel", zTR, 27, rfl, by decide, zLR, wfR_32⟩
theorem fR_35 : z_F "NotaryHallModel" 35 6 9 := ⟨"NotaryHallModel", zTR, 27, rfl, by decide, zLR, wfR_35⟩
theorem fR_38 : z_F "NotaryHallModel" 38 6 10 := ⟨"NotaryHallModel", zTR, 27, rfl, by decide, zLR, wfR_38⟩
theorem fR_41 : z_F "NotaryHallModel" 41 6 11 := ⟨"NotaryHallModel", zTR, 27, rfl, by decide, zLR, wfR_41⟩
theorem fR_44 : z_F "NotaryHallModel" 44 6 12 := ⟨"NotaryHallModel", zTR, 27, rfl, by decide, zLR, wfR_44⟩
theorem fR_47 : z_F "NotaryHallModel" 47 6 13 := ⟨"NotaryHallModel", zTR, 27, rfl, by decide, zLR, wfR_47⟩
theorem fR_50 : z_F "NotaryHallModel" 50 6 14 := ⟨"NotaryHallModel", zTR, 27, rfl, by decide, zLR, wfR_50⟩
theorem fR_53 : z_F "NotaryHallModel" 53 6 15 := ⟨"NotaryHallModel", zTR, 27, rfl, by decide, zLR, wfR_53⟩
theorem fR_56 : z_F "NotaryHallModel" 56 6 16 := ⟨"NotaryHallModel", zTR, 27, rfl, by decide, zLR, wfR_56⟩
theorem fR_59 : z_F "NotaryHallModel" 59 6 17 := ⟨"NotaryHallModel", zTR, 27, rfl, by decide, zLR, wfR_59⟩
theorem fR_62 : z_F "NotaryHallModel" 62 6 18 := ⟨"NotaryHallModel", zTR, 27, rfl, by decide, zLR, wfR_62⟩
theorem fR_65 : z_F "NotaryHallModel" 65 6 19 := ⟨"NotaryHallModel", zTR, 27, rfl, by decide, zLR, wfR_65⟩
theorem fR_68 : z_F "NotaryHallModel" 68 6 20 := ⟨"NotaryHallModel", zTR, 27, rfl, by decide, zLR, wfR_68⟩
theorem fR_71 : z_F "NotaryHallModel" 71 6 21 := ⟨"NotaryHallModel", zTR, 27, rfl, by decide, zLR, wfR_71⟩
theorem fR_74 : z_F "NotaryHallModel" 74 6 22 := ⟨"NotaryHallModel", zTR, 27, rfl, by decide, zLR, wfR_74⟩
theorem fR_77 : z_F "NotaryHallModel" 77 6 25 := ⟨"NotaryHallModel", zTR, 27, rfl, by decide, zLR, wfR_77⟩
theorem fR_80 : z_F "NotaryHallModel" 80 6 26 := ⟨"NotaryHallModel", zTR, 27, rfl, by decide, zLR, wfR_80⟩
theorem fR_83 : z_F "NotaryHallModel" 83 6 0 := ⟨"NotaryHallModel", zTR, 27, rfl, by decide, zLR, wfR_83⟩
theorem fR_143 : z_F "NotaryHallModel" 143 6 23 := ⟨"NotaryHallModel", zTR, 27, rfl, by decide, zLR, wfR_143⟩
theorem fR_172 : z_F "NotaryHallModel" 172 6 24 := ⟨"NotaryHallModel", zTR, 27, rfl, by decide, zLR, wfR_172⟩
theorem fS_9 : z_F "NotaryHall$State" 9 5 0 := ⟨"NotaryHall$State", zTS, 6, rfl, by decide, zLS, wfS_9⟩
theorem fS_15 : z_F "NotaryHall$State" 15 5 1 := ⟨"NotaryHall$State", zTS, 6, rfl, by decide, zLS, wfS_15⟩
theorem fS_18 : z_F "NotaryHall$State" 18 5 2 := ⟨"NotaryHall$State", zTS, 6, rfl, by decide, zLS, wfS_18⟩
theorem fS_21 : z_F "NotaryHall$State" 21 5 3 := ⟨"NotaryHall$State", zTS, 6, rfl, by decide, zLS, wfS_21⟩
theorem fS_24 : z_F "NotaryHall$State" 24 5 4 := ⟨"NotaryHall$State", zTS, 6, rfl, by decide, zLS, wfS_24⟩
theorem fS_27 : z_F "NotaryHall$State" 27 5 5 := ⟨"NotaryHall$State", zTS, 6, rfl, by decide, zLS, wfS_27⟩
theorem fT_9 : z_F "NotaryHall$Transaction" 9 3 0 := ⟨"NotaryHall$Transaction", zTT, 15, rfl, by decide, zLT, wfT_9⟩
theorem fT_15 : z_F "NotaryHall$Transaction" 15 3 1 := ⟨"NotaryHall$Transaction", zTT, 15, rfl, by decide, zLT, wfT_15⟩
theorem fT_18 : z_F "NotaryHall$Transaction" 18 3 2 := ⟨"NotaryHall$Transaction", zTT, 15, rfl, by decide, zLT, wfT_18⟩
theorem fT_21 : z_F "NotaryHall$Transaction" 21 3 3 := ⟨"NotaryHall$Transaction", zTT, 15, rfl, by decide, zLT, wfT_21⟩
theorem fT_24 : z_F "NotaryHall$Transaction" 24 3 4 := ⟨"NotaryHall$Transaction", zTT, 15, rfl, by decide, zLT, wfT_24⟩
theorem fT_30 : z_F "NotaryHall$Transaction" 30 3 5 := ⟨"NotaryHall$Transaction", zTT, 15, rfl, by decide, zLT, wfT_30⟩
theorem fT_34 : z_F "NotaryHall$Transaction" 34 3 6 := ⟨"NotaryHall$Transaction", zTT, 15, rfl, by decide, zLT, wfT_34⟩
theorem fT_37 : z_F "NotaryHall$Transaction" 37 3 8 := ⟨"NotaryHall$Transaction", zTT, 15, rfl, by decide, zLT, wfT_37⟩
theorem fT_43 : z_F "NotaryHall$Transaction" 43 3 7 := ⟨"NotaryHall$Transaction", zTT, 15, rfl, by decide, zLT, wfT_43⟩
theorem fT_56 : z_F "NotaryHall$Transaction" 56 4 1 := ⟨"NotaryHall$StateList", zTL, 2, rfl, by decide, zLL, wfT_56⟩
theorem fT_62 : z_F "NotaryHall$Transaction" 62 3 12 := ⟨"NotaryHall$Transaction", zTT, 15, rfl, by decide, zLT, wfT_62⟩
theorem fT_69 : z_F "NotaryHall$Transaction" 69 3 13 := ⟨"NotaryHall$Transaction", zTT, 15, rfl, by decide, zLT, wfT_69⟩
theorem fT_79 : z_F "NotaryHall$Transaction" 79 3 9 := ⟨"NotaryHall$Transaction", zTT, 15, rfl, by decide, zLT, wfT_79⟩
theorem fT_93 : z_F "NotaryHall$Transaction" 93 4 0 := ⟨"NotaryHall$StateList", zTL, 2, rfl, by decide, zLL, wfT_93⟩
theorem fT_111 : z_F "NotaryHall$Transaction" 111 5 1 := ⟨"NotaryHall$State", zTS, 6, rfl, by decide, zLS, wfT_111⟩
theorem fT_114 : z_F "NotaryHall$Transaction" 114 5 4 := ⟨"NotaryHall$State", zTS, 6, rfl, by decide, zLS, wfT_114⟩
theorem fT_153 : z_F "NotaryHall$Transaction" 153 5 0 := ⟨"NotaryHall$State", zTS, 6, rfl, by decide, zLS, wfT_153⟩
theorem gB_9 : z_G "NotaryHall$Mailbox" 9 2 0 true (.array .int) := ⟨"NotaryHall$Mailbox", zTB, 2, zYB, rfl, by decide, zLB, wfB_9, zKB, zMB, rfl, by decide +kernel, rfl⟩
theorem gB_15 : z_G "NotaryHall$Mailbox" 15 2 1 false .int := ⟨"NotaryHall$Mailbox", zTB, 2, zYB, rfl, by decide, zLB, wfB_15, zKB, zMB, rfl, by decide +kernel, rfl⟩
theorem gH_11 : z_G "NotaryHall" 11 0 0 true (.array (.object "NotaryHall$Transaction")) := ⟨"NotaryHall", zTH, 8, zYH, rfl, by decide, zLH, wfH_11, zKH, zMH, rfl, by decide +kernel, rfl⟩
theorem gH_17 : z_G "NotaryHall" 17 0 2 true (.array (.object "NotaryHall$Node")) := ⟨"NotaryHall", zTH, 8, zYH, rfl, by decide, zLH, wfH_17, zKH, zMH, rfl, by decide +kernel, rfl⟩
theorem gH_25 : z_G "NotaryHall" 25 0 3 true (.object "NotaryHall$Mailbox") := ⟨"NotaryHall", zTH, 8, zYH, rfl, by decide, zLH, wfH_25, zKH, zMH, rfl, by decide +kernel, rfl⟩
theorem gH_29 : z_G "NotaryHall" 29 0 4 true (.array .int) := ⟨"NotaryHall", zTH, 8, zYH, rfl, by decide, zLH, wfH_29, zKH, zMH, rfl, by decide +kernel, rfl⟩
theorem gH_39 : z_G "NotaryHall" 39 0 5 true (.array .int) := ⟨"NotaryHall", zTH, 8, zYH, rfl, by decide, zLH, wfH_39, zKH, zMH, rfl, by decide +kernel, rfl⟩
theorem gH_42 : z_G "NotaryHall" 42 0 6 true (.array .int) := ⟨"NotaryHall", zTH, 8, zYH, rfl, by decide, zLH, wfH_42, zKH, zMH, rfl, by decide +kernel, rfl⟩
theorem gH_53 : z_G "NotaryHall" 53 0 1 false .int := ⟨"NotaryHall", zTH, 8, zYH, rfl, by decide, zLH, wfH_53, zKH, zMH, rfl, by decide +kernel, rfl⟩
theorem gH_68 : z_G "NotaryHall" 68 3 8 false .int := ⟨"NotaryHall$Transaction", zTT, 15, zYT, rfl, by decide, zLT, wfH_68, zKT, zMT, rfl, by decide +kernel, rfl⟩
theorem gH_119 : z_G "NotaryHall" 119 5 5 false .int := ⟨"NotaryHall$State", zTS, 6, zYS, rfl, by decide, zLS, wfH_119, zKS, zMS, rfl, by decide +kernel, rfl⟩
theorem gH_180 : z_G "NotaryHall" 180 0 7 false .int := ⟨"NotaryHall", zTH, 8, zYH, rfl, by decide, zLH, wfH_180, zKH, zMH, rfl, by decide +kernel, rfl⟩
theorem gH_183 : z_G "NotaryHall" 183 1 3 false .int := ⟨"NotaryHall$Node", zTN, 4, zYN, rfl, by decide, zLN, wfH_183, zKN, zMN, rfl, by decide +kernel, rfl⟩
theorem gH_193 : z_G "NotaryHall" 193 3 11 false .int := ⟨"NotaryHall$Transaction", zTT, 15, zYT, rfl, by decide, zLT, wfH_193, zKT, zMT, rfl, by decide +kernel, rfl⟩
theorem gH_196 : z_G "NotaryHall" 196 3 14 false .int := ⟨"NotaryHall$Transaction", zTT, 15, zYT, rfl, by decide, zLT, wfH_196, zKT, zMT, rfl, by decide +kernel, rfl⟩
theorem gL_11 : z_G "NotaryHall$StateList" 11 4 0 true (.array (.object "NotaryHall$State")) := ⟨"NotaryHall$StateList", zTL, 2, zYL, rfl, by decide, zLL, wfL_11, zKL, zML, rfl, by decide +kernel, rfl⟩
theorem gL_17 : z_G "NotaryHall$StateList" 17 4 1 false .int := ⟨"NotaryHall$StateList", zTL, 2, zYL, rfl, by decide, zLL, wfL_17, zKL, zML, rfl, by decide +kernel, rfl⟩
theorem gN_13 : z_G "NotaryHall$Node" 13 1 3 false .int := ⟨"NotaryHall$Node", zTN, 4, zYN, rfl, by decide, zLN, wfN_13, zKN, zMN, rfl, by decide +kernel, rfl⟩
theorem gN_19 : z_G "NotaryHall$Node" 19 1 2 false .int := ⟨"NotaryHall$Node", zTN, 4, zYN, rfl, by decide, zLN, wfN_19, zKN, zMN, rfl, by decide +kernel, rfl⟩
theorem gN_22 : z_G "NotaryHall$Node" 22 1 0 false .int := ⟨"NotaryHall$Node", zTN, 4, zYN, rfl, by decide, zLN, wfN_22, zKN, zMN, rfl, by decide +kernel, rfl⟩
theorem gN_30 : z_G "NotaryHall$Node" 30 1 1 false .int := ⟨"NotaryHall$Node", zTN, 4, zYN, rfl, by decide, zLN, wfN_30, zKN, zMN, rfl, by decide +kernel, rfl⟩
theorem gR_7 : z_G "NotaryHallModel" 7 6 1 false (.array .int) := ⟨"NotaryHallModel", zTR, 27, zYR, rfl, by decide, zLR, wfR_7, zKR, zMR, rfl, by decide +kernel, rfl⟩
theorem gR_13 : z_G "NotaryHallModel" 13 6 2 false (.array .int) := ⟨"NotaryHallModel", zTR, 27, zYR, rfl, by decide, zLR, wfR_13, zKR, zMR, rfl, by decide +kernel, rfl⟩
theorem gR_16 : z_G "NotaryHallModel" 16 6 3 false (.array .int) := ⟨"NotaryHallModel", zTR, 27, zYR, rfl, by decide, zLR, wfR_16, zKR, zMR, rfl, by decide +kernel, rfl⟩
theorem gR_19 : z_G "NotaryHallModel" 19 6 4 false (.array .int) := ⟨"NotaryHallModel", zTR, 27, zYR, rfl, by decide, zLR, wfR_19, zKR, zMR, rfl, by decide +kernel, rfl⟩
theorem gR_22 : z_G "NotaryHallModel" 22 6 5 false (.array .int) := ⟨"NotaryHallModel", zTR, 27, zYR, rfl, by decide, zLR, wfR_22, zKR, zMR, rfl, by decide +kernel, rfl⟩
theorem gR_25 : z_G "NotaryHallModel" 25 6 6 false (.array .boolean) := ⟨"NotaryHallModel", zTR, 27, zYR, rfl, by decide, zLR, wfR_25, zKR, zMR, rfl, by decide +kernel, rfl⟩
theorem gR_29 : z_G "NotaryHallModel" 29 6 7 false (.array .int) := ⟨"NotaryHallModel", zTR, 27, zYR, rfl, by decide, zLR, wfR_29, zKR, zMR, rfl, by decide +kernel, rfl⟩
theorem gR_32 : z_G "NotaryHallModel" 32 6 8 false (.array .int) := ⟨"NotaryHallModel", zTR, 27, zYR, rfl, by decide, zLR, wfR_32, zKR, zMR, rfl, by decide +kernel, rfl⟩
theorem gR_35 : z_G "NotaryHallModel" 35 6 9 false (.array .int) := ⟨"NotaryHallModel", zTR, 27, zYR, rfl, by decide, zLR, wfR_35, zKR, zMR, rfl, by decide +kernel, rfl⟩
theorem gR_38 : z_G "NotaryHallModel" 38 6 10 false (.array .int) := ⟨"NotaryHallModel", zTR, 27, zYR, rfl, by decide, zLR, wfR_38, zKR, zMR, rfl, by decide +kernel, rfl⟩
theorem gR_41 : z_G "NotaryHallModel" 41 6 11 false (.array .int) := ⟨"NotaryHallModel", zTR, 27, zYR, rfl, by decide, zLR, wfR_41, zKR, zMR, rfl, by decide +kernel, rfl⟩
theorem gR_44 : z_G "NotaryHallModel" 44 6 12 false (.array .int) := ⟨"NotaryHallModel", zTR, 27, zYR, rfl, by decide, zLR, wfR_44, zKR, zMR, rfl, by decide +kernel, rfl⟩
theorem gR_47 : z_G "NotaryHallModel" 47 6 13 false (.array .int) := ⟨"NotaryHallModel", zTR, 27, zYR, rfl, by decide, zLR, wfR_47, zKR, zMR, rfl, by decide +kernel, rfl⟩
theorem gR_50 : z_G "NotaryHallModel" 50 6 14 false (.array .int) := ⟨"NotaryHallModel", zTR, 27, zYR, rfl, by decide, zLR, wfR_50, zKR, zMR, rfl, by decide +kernel, rfl⟩
theorem gR_53 : z_G "NotaryHallModel" 53 6 15 false (.array .int) := ⟨"NotaryHallModel", zTR, 27, zYR, rfl, by decide, zLR, wfR_53, zKR, zMR, rfl, by decide +kernel, rfl⟩
theorem gR_56 : z_G "NotaryHallModel" 56 6 16 false (.array .int) := ⟨"NotaryHallModel", zTR, 27, zYR, rfl, by decide, zLR, wfR_56, zKR, zMR, rfl, by decide +kernel, rfl⟩
theorem gR_59 : z_G "NotaryHallModel" 59 6 17 false (.array .int) := ⟨"NotaryHallModel", zTR, 27, zYR, rfl, by decide, zLR, wfR_59, zKR, zMR, rfl, by decide +kernel, rfl⟩
theorem gR_62 : z_G "NotaryHallModel" 62 6 18 false (.array .int) := ⟨"NotaryHallModel", zTR, 27, zYR, rfl, by decide, zLR, wfR_62, zKR, zMR, rfl, by decide +kernel, rfl⟩
theorem gR_65 : z_G "NotaryHallModel" 65 6 19 false (.array .int) := ⟨"NotaryHallModel", zTR, 27, zYR, rfl, by decide, zLR, wfR_65, zKR, zMR, rfl, by decide +kernel, rfl⟩
theorem gR_68 : z_G "NotaryHallModel" 68 6 20 false (.array .int) := ⟨"NotaryHallModel", zTR, 27, zYR, rfl, by decide, zLR, wfR_68, zKR, zMR, rfl, by decide +kernel, rfl⟩
theorem gR_71 : z_G "NotaryHallModel" 71 6 21 false (.array .boolean) := ⟨"NotaryHallModel", zTR, 27, zYR, rfl, by decide, zLR, wfR_71, zKR, zMR, rfl, by decide +kernel, rfl⟩
theorem gR_74 : z_G "NotaryHallModel" 74 6 22 false (.array .int) := ⟨"NotaryHallModel", zTR, 27, zYR, rfl, by decide, zLR, wfR_74, zKR, zMR, rfl, by decide +kernel, rfl⟩
theorem gR_77 : z_G "NotaryHallModel" 77 6 25 false (.array .boolean) := ⟨"NotaryHallModel", zTR, 27, zYR, rfl, by decide, zLR, wfR_77, zKR, zMR, rfl, by decide +kernel, rfl⟩
theorem gR_80 : z_G "NotaryHallModel" 80 6 26 false (.array .int) := ⟨"NotaryHallModel", zTR, 27, zYR, rfl, by decide, zLR, wfR_80, zKR, zMR, rfl, by decide +kernel, rfl⟩
theorem gR_83 : z_G "NotaryHallModel" 83 6 0 false .int := ⟨"NotaryHallModel", zTR, 27, zYR, rfl, by decide, zLR, wfR_83, zKR, zMR, rfl, by decide +kernel, rfl⟩
theorem gR_143 : z_G "NotaryHallModel" 143 6 23 false .int := ⟨"NotaryHallModel", zTR, 27, zYR, rfl, by decide, zLR, wfR_143, zKR, zMR, rfl, by decide +kernel, rfl⟩
theorem gR_172 : z_G "NotaryHallModel" 172 6 24 false .int := ⟨"NotaryHallModel", zTR, 27, zYR, rfl, by decide, zLR, wfR_172, zKR, zMR, rfl, by decide +kernel, rfl⟩
theorem gS_9 : z_G "NotaryHall$State" 9 5 0 true .int := ⟨"NotaryHall$State", zTS, 6, zYS, rfl, by decide, zLS, wfS_9, zKS, zMS, rfl, by decide +kernel, rfl⟩
theorem gS_15 : z_G "NotaryHall$State" 15 5 1 true .int := ⟨"NotaryHall$State", zTS, 6, zYS, rfl, by decide, zLS, wfS_15, zKS, zMS, rfl, by decide +kernel, rfl⟩
theorem gS_18 : z_G "NotaryHall$State" 18 5 2 true .int := ⟨"NotaryHall$State", zTS, 6, zYS, rfl, by decide, zLS, wfS_18, zKS, zMS, rfl, by decide +kernel, rfl⟩
theorem gS_21 : z_G "NotaryHall$State" 21 5 3 true .int := ⟨"NotaryHall$State", zTS, 6, zYS, rfl, by decide, zLS, wfS_21, zKS, zMS, rfl, by decide +kernel, rfl⟩
theorem gS_24 : z_G "NotaryHall$State" 24 5 4 true .int := ⟨"NotaryHall$State", zTS, 6, zYS, rfl, by decide, zLS, wfS_24, zKS, zMS, rfl, by decide +kernel, rfl⟩
theorem gS_27 : z_G "NotaryHall$State" 27 5 5 false .int := ⟨"NotaryHall$State", zTS, 6, zYS, rfl, by decide, zLS, wfS_27, zKS, zMS, rfl, by decide +kernel, rfl⟩
theorem gT_9 : z_G "NotaryHall$Transaction" 9 3 0 true .int := ⟨"NotaryHall$Transaction", zTT, 15, zYT, rfl, by decide, zLT, wfT_9, zKT, zMT, rfl, by decide +kernel, rfl⟩
theorem gT_15 : z_G "NotaryHall$Transaction" 15 3 1 true .int := ⟨"NotaryHall$Transaction", zTT, 15, zYT, rfl, by decide, zLT, wfT_15, zKT, zMT, rfl, by decide +kernel, rfl⟩
theorem gT_18 : z_G "NotaryHall$Transaction" 18 3 2 true .int := ⟨"NotaryHall$Transaction", zTT, 15, zYT, rfl, by decide, zLT, wfT_18, zKT, zMT, rfl, by decide +kernel, rfl⟩
theorem gT_21 : z_G "NotaryHall$Transaction" 21 3 3 true .int := ⟨"NotaryHall$Transaction", zTT, 15, zYT, rfl, by decide, zLT, wfT_21, zKT, zMT, rfl, by decide +kernel, rfl⟩
theorem gT_24 : z_G "NotaryHall$Transaction" 24 3 4 true .int := ⟨"NotaryHall$Transaction", zTT, 15, zYT, rfl, by decide, zLT, wfT_24, zKT, zMT, rfl, by decide +kernel, rfl⟩
theorem gT_30 : z_G "NotaryHall$Transaction" 30 3 5 true (.object "NotaryHall$StateList") := ⟨"NotaryHall$Transaction", zTT, 15, zYT, rfl, by decide, zLT, wfT_30, zKT, zMT, rfl, by decide +kernel, rfl⟩
theorem gT_34 : z_G "NotaryHall$Transaction" 34 3 6 true (.object "NotaryHall$StateList") := ⟨"NotaryHall$Transaction", zTT, 15, zYT, rfl, by decide, zLT, wfT_34, zKT, zMT, rfl, by decide +kernel, rfl⟩
theorem gT_37 : z_G "NotaryHall$Transaction" 37 3 8 false .int := ⟨"NotaryHall$Transaction", zTT, 15, zYT, rfl, by decide, zLT, wfT_37, zKT, zMT, rfl, by decide +kernel, rfl⟩
theorem gT_40 : z_G "NotaryHall$Transaction" 40 3 14 false .int := ⟨"NotaryHall$Transaction", zTT, 15, zYT, rfl, by decide, zLT, wfT_40, zKT, zMT, rfl, by decide +kernel, rfl⟩
theorem gT_43 : z_G "NotaryHall$Transaction" 43 3 7 false .int := ⟨"NotaryHall$Transaction", zTT, 15, zYT, rfl, by decide, zLT, wfT_43, zKT, zMT, rfl, by decide +kernel, rfl⟩
theorem gT_62 : z_G "NotaryHall$Transaction" 62 3 12 false .int := ⟨"NotaryHall$Transaction", zTT, 15, zYT, rfl, by decide, zLT, wfT_62, zKT, zMT, rfl, by decide +kernel, rfl⟩
theorem gT_69 : z_G "NotaryHall$Transaction" 69 3 13 false .int := ⟨"NotaryHall$Transaction", zTT, 15, zYT, rfl, by decide, zLT, wfT_69, zKT, zMT, rfl, by decide +kernel, rfl⟩
theorem gT_72 : z_G "NotaryHall$Transaction" 72 3 11 false .int := ⟨"NotaryHall$Transaction", zTT, 15, zYT, rfl, by decide, zLT, wfT_72, zKT, zMT, rfl, by decide +kernel, rfl⟩
theorem gT_79 : z_G "NotaryHall$Transaction" 79 3 9 false .int := ⟨"NotaryHall$Transaction", zTT, 15, zYT, rfl, by decide, zLT, wfT_79, zKT, zMT, rfl, by decide +kernel, rfl⟩
theorem gT_89 : z_G "NotaryHall$Transaction" 89 3 10 false .boolean := ⟨"NotaryHall$Transaction", zTT, 15, zYT, rfl, by decide, zLT, wfT_89, zKT, zMT, rfl, by decide +kernel, rfl⟩
theorem qH_init : z_Cl mH_init 0 := ⟨woH_init, wzH, ⟨by decide, by decide⟩, by decide +kernel⟩
theorem qN_init : z_Cl mN_init 0 := ⟨woN_init, wzN, ⟨by decide, by decide⟩, by decide +kernel⟩
theorem qH_bit : z_Cl mH_bit 1 := ⟨woH_bit, wzH, ⟨by decide, by decide⟩, by decide +kernel⟩
theorem qB_init : z_Cl mB_init 0 := ⟨woB_init, wzB, ⟨by decide, by decide⟩, by decide +kernel⟩
theorem qJA_fill : z_Cl mJA_fill 2 := ⟨woJA_fill, wzJA, ⟨by decide, by decide⟩, by decide +kernel⟩
theorem qH_begin : z_Cl mH_begin 4 := ⟨woH_begin, wzH, ⟨by decide, by decide⟩, by decide +kernel⟩
theorem qH_isNode : z_Cl mH_isNode 1 := ⟨woH_isNode, wzH, ⟨by decide, by decide⟩, by decide +kernel⟩
theorem qH_isNotary : z_Cl mH_isNotary 1 := ⟨woH_isNotary, wzH, ⟨by decide, by decide⟩, by decide +kernel⟩
theorem qT_init : z_Cl mT_init 5 := ⟨woT_init, wzT, ⟨by decide, by decide⟩, by decide +kernel⟩
theorem qL_init : z_Cl mL_init 0 := ⟨woL_init, wzL, ⟨by decide, by decide⟩, by decide +kernel⟩
theorem qH_consume : z_Cl mH_consume 3 := ⟨woH_consume, wzH, ⟨by decide, by decide⟩, by decide +kernel⟩
theorem qH_find : z_Cl mH_find 1 := ⟨woH_find, wzH, ⟨by decide, by decide⟩, by decide +kernel⟩
theorem qH_findState : z_Cl mH_findState 2 := ⟨woH_findState, wzH, ⟨by decide, by decide⟩, by decide +kernel⟩
theorem qH_has : z_Cl mH_has 2 := ⟨woH_has, wzH, ⟨by decide, by decide⟩, by decide +kernel⟩
theorem qL_holds : z_Cl mL_holds 1 := ⟨woL_holds, wzL, ⟨by decide, by decide⟩, by decide +kernel⟩
theorem qL_hasRoomFor : z_Cl mL_hasRoomFor 1 := ⟨woL_hasRoomFor, wzL, ⟨by decide, by decide⟩, by decide +kernel⟩
theorem qT_addInput : z_Cl mT_addInput 2 := ⟨woT_addInput, wzT, ⟨by decide, by decide⟩, by decide +kernel⟩
theorem qL_add : z_Cl mL_add 1 := ⟨woL_add, wzL, ⟨by decide, by decide⟩, by decide +kernel⟩
theorem qH_produce : z_Cl mH_produce 5 := ⟨woH_produce, wzH, ⟨by decide, by decide⟩, by decide +kernel⟩
theorem qH_isContent : z_Cl mH_isContent 3 := ⟨woH_isContent, wzH, ⟨by decide, by decide⟩, by decide +kernel⟩
theorem qH_isAmount : z_Cl mH_isAmount 1 := ⟨woH_isAmount, wzH, ⟨by decide, by decide⟩, by decide +kernel⟩
theorem qT_addOutput : z_Cl mT_addOutput 4 := ⟨woT_addOutput, wzT, ⟨by decide, by decide⟩, by decide +kernel⟩
theorem qS_init : z_Cl mS_init 5 := ⟨woS_init, wzS, ⟨by decide, by decide⟩, by decide +kernel⟩
theorem qH_bind : z_Cl mH_bind 3 := ⟨woH_bind, wzH, ⟨by decide, by decide⟩, by decide +kernel⟩
theorem qH_pay : z_Cl mH_pay 4 := ⟨woH_pay, wzH, ⟨by decide, by decide⟩, by decide +kernel⟩
theorem qH_stateNumbersEnd : z_Cl mH_stateNumbersEnd 0 := ⟨woH_stateNumbersEnd, wzH, ⟨by decide, by decide⟩, by decide +kernel⟩
theorem qH_stateNumbered : z_Cl mH_stateNumbered 1 := ⟨woH_stateNumbered, wzH, ⟨by decide, by decide⟩, by decide +kernel⟩
theorem qH_isCoin : z_Cl mH_isCoin 3 := ⟨woH_isCoin, wzH, ⟨by decide, by decide⟩, by decide +kernel⟩
theorem qS_isCashIssuedBy : z_Cl mS_isCashIssuedBy 1 := ⟨woS_isCashIssuedBy, wzS, ⟨by decide, by decide⟩, by decide +kernel⟩
theorem qS_isBound : z_Cl mS_isBound 0 := ⟨woS_isBound, wzS, ⟨by decide, by decide⟩, by decide +kernel⟩
theorem qS_source : z_Cl mS_source 0 := ⟨woS_source, wzS, ⟨by decide, by decide⟩, by decide +kernel⟩
theorem qH_isInVault : z_Cl mH_isInVault 2 := ⟨woH_isInVault, wzH, ⟨by decide, by decide⟩, by decide +kernel⟩
theorem qS_concerns : z_Cl mS_concerns 1 := ⟨woS_concerns, wzS, ⟨by decide, by decide⟩, by decide +kernel⟩
theorem qS_isCashOwnedBy : z_Cl mS_isCashOwnedBy 1 := ⟨woS_isCashOwnedBy, wzS, ⟨by decide, by decide⟩, by decide +kernel⟩
theorem qH_isKnownInput : z_Cl mH_isKnownInput 2 := ⟨woH_isKnownInput, wzH, ⟨by decide, by decide⟩, by decide +kernel⟩
theorem qH_isHeld : z_Cl mH_isHeld 2 := ⟨woH_isHeld, wzH, ⟨by decide, by decide⟩, by decide +kernel⟩
theorem qT_isOpen : z_Cl mT_isOpen 0 := ⟨woT_isOpen, wzT, ⟨by decide, by decide⟩, by decide +kernel⟩
theorem qH_takeCoins : z_Cl mH_takeCoins 2 := ⟨woH_takeCoins, wzH, ⟨by decide, by decide⟩, by decide +kernel⟩
theorem qH_drop : z_Cl mH_drop 1 := ⟨woH_drop, wzH, ⟨by decide, by decide⟩, by decide +kernel⟩
theorem qH_propose : z_Cl mH_propose 2 := ⟨woH_propose, wzH, ⟨by decide, by decide⟩, by decide +kernel⟩
theorem qT_isValid : z_Cl mT_isValid 0 := ⟨woT_isValid, wzT, ⟨by decide, by decide⟩, by decide +kernel⟩
theorem qT_allowsInput : z_Cl mT_allowsInput 1 := ⟨woT_allowsInput, wzT, ⟨by decide, by decide⟩, by decide +kernel⟩
theorem qS_boundNumber : z_Cl mS_boundNumber 0 := ⟨woS_boundNumber, wzS, ⟨by decide, by decide⟩, by decide +kernel⟩
theorem qT_seal : z_Cl mT_seal 1 := ⟨woT_seal, wzT, ⟨by decide, by decide⟩, by decide +kernel⟩
theorem qT_needs : z_Cl mT_needs 0 := ⟨woT_needs, wzT, ⟨by decide, by decide⟩, by decide +kernel⟩
theorem qT_mustSign : z_Cl mT_mustSign 1 := ⟨woT_mustSign, wzT, ⟨by decide, by decide⟩, by decide +kernel⟩
theorem qL_holdsCashOwnedBy : z_Cl mL_holdsCashOwnedBy 1 := ⟨woL_holdsCashOwnedBy, wzL, ⟨by decide, by decide⟩, by decide +kernel⟩
theorem qL_cashIssuedBy : z_Cl mL_cashIssuedBy 1 := ⟨woL_cashIssuedBy, wzL, ⟨by decide, by decide⟩, by decide +kernel⟩
theorem qT_owesMore : z_Cl mT_owesMore 1 := ⟨woT_owesMore, wzT, ⟨by decide, by decide⟩, by decide +kernel⟩
theorem qL_debtOf : z_Cl mL_debtOf 2 := ⟨woL_debtOf, wzL, ⟨by decide, by decide⟩, by decide +kernel⟩
theorem qS_isDebtOf : z_Cl mS_isDebtOf 2 := ⟨woS_isDebtOf, wzS, ⟨by decide, by decide⟩, by decide +kernel⟩
theorem qT_isLetDown : z_Cl mT_isLetDown 1 := ⟨woT_isLetDown, wzT, ⟨by decide, by decide⟩, by decide +kernel⟩
theorem qJM_max : z_Cl mJM_max 2 := ⟨woJM_max, wzJM, ⟨by decide, by decide⟩, by decide +kernel⟩
theorem qL_cashOwnedBy : z_Cl mL_cashOwnedBy 1 := ⟨woL_cashOwnedBy, wzL, ⟨by decide, by decide⟩, by decide +kernel⟩
theorem qT_needsNobodyElse : z_Cl mT_needsNobodyElse 0 := ⟨woT_needsNobodyElse, wzT, ⟨by decide, by decide⟩, by decide +kernel⟩
theorem qH_sendNotarise : z_Cl mH_sendNotarise 1 := ⟨woH_sendNotarise, wzH, ⟨by decide, by decide⟩, by decide +kernel⟩
theorem qH_send : z_Cl mH_send 5 := ⟨woH_send, wzH, ⟨by decide, by decide⟩, by decide +kernel⟩
theorem qB_code : z_Cl mB_code 5 := ⟨woB_code, wzB, ⟨by decide, by decide⟩, by decide +kernel⟩
theorem qB_post : z_Cl mB_post 1 := ⟨woB_post, wzB, ⟨by decide, by decide⟩, by decide +kernel⟩
theorem qB_isWaiting : z_Cl mB_isWaiting 1 := ⟨woB_isWaiting, wzB, ⟨by decide, by decide⟩, by decide +kernel⟩
theorem qH_sendToOthers : z_Cl mH_sendToOthers 3 := ⟨woH_sendToOthers, wzH, ⟨by decide, by decide⟩, by decide +kernel⟩
theorem qH_deliver : z_Cl mH_deliver 2 := ⟨woH_deliver, wzH, ⟨by decide, by decide⟩, by decide +kernel⟩
theorem qB_holdsPlace : z_Cl mB_holdsPlace 1 := ⟨woB_holdsPlace, wzB, ⟨by decide, by decide⟩, by decide +kernel⟩
theorem qH_receive : z_Cl mH_receive 2 := ⟨woH_receive, wzH, ⟨by decide, by decide⟩, by decide +kernel⟩
theorem qB_transactionOf : z_Cl mB_transactionOf 1 := ⟨woB_transactionOf, wzB, ⟨by decide, by decide⟩, by decide +kernel⟩
theorem qB_receiverOf : z_Cl mB_receiverOf 1 := ⟨woB_receiverOf, wzB, ⟨by decide, by decide⟩, by decide +kernel⟩
theorem qB_contentOf : z_Cl mB_contentOf 1 := ⟨woB_contentOf, wzB, ⟨by decide, by decide⟩, by decide +kernel⟩
theorem qB_kindOf : z_Cl mB_kindOf 1 := ⟨woB_kindOf, wzB, ⟨by decide, by decide⟩, by decide +kernel⟩
theorem qH_receiveAsk : z_Cl mH_receiveAsk 3 := ⟨woH_receiveAsk, wzH, ⟨by decide, by decide⟩, by decide +kernel⟩
theorem qT_decide : z_Cl mT_decide 2 := ⟨woT_decide, wzT, ⟨by decide, by decide⟩, by decide +kernel⟩
theorem qN_fetch : z_Cl mN_fetch 1 := ⟨woN_fetch, wzN, ⟨by decide, by decide⟩, by decide +kernel⟩
theorem qJI_bitCount : z_Cl mJI_bitCount 1 := ⟨woJI_bitCount, wzJI, ⟨by decide, by decide⟩, by decide +kernel⟩
theorem qB_senderOf : z_Cl mB_senderOf 1 := ⟨woB_senderOf, wzB, ⟨by decide, by decide⟩, by decide +kernel⟩
theorem qH_receiveReply : z_Cl mH_receiveReply 4 := ⟨woH_receiveReply, wzH, ⟨by decide, by decide⟩, by decide +kernel⟩
theorem qH_receiveNotarise : z_Cl mH_receiveNotarise 1 := ⟨woH_receiveNotarise, wzH, ⟨by decide, by decide⟩, by decide +kernel⟩
theorem qH_judge : z_Cl mH_judge 1 := ⟨woH_judge, wzH, ⟨by decide, by decide⟩, by decide +kernel⟩
theorem qH_isAnyInputUsedUp : z_Cl mH_isAnyInputUsedUp 1 := ⟨woH_isAnyInputUsedUp, wzH, ⟨by decide, by decide⟩, by decide +kernel⟩
theorem qH_useUpInputs : z_Cl mH_useUpInputs 1 := ⟨woH_useUpInputs, wzH, ⟨by decide, by decide⟩, by decide +kernel⟩
theorem qH_receiveVerdict : z_Cl mH_receiveVerdict 3 := ⟨woH_receiveVerdict, wzH, ⟨by decide, by decide⟩, by decide +kernel⟩
theorem qT_concerned : z_Cl mT_concerned 0 := ⟨woT_concerned, wzT, ⟨by decide, by decide⟩, by decide +kernel⟩
theorem qH_settle : z_Cl mH_settle 2 := ⟨woH_settle, wzH, ⟨by decide, by decide⟩, by decide +kernel⟩
theorem qN_enter : z_Cl mN_enter 1 := ⟨woN_enter, wzN, ⟨by decide, by decide⟩, by decide +kernel⟩
theorem qH_receiveFinality : z_Cl mH_receiveFinality 3 := ⟨woH_receiveFinality, wzH, ⟨by decide, by decide⟩, by decide +kernel⟩
theorem qB_removeAt : z_Cl mB_removeAt 1 := ⟨woB_removeAt, wzB, ⟨by decide, by decide⟩, by decide +kernel⟩
theorem qH_message : z_Cl mH_message 1 := ⟨woH_message, wzH, ⟨by decide, by decide⟩, by decide +kernel⟩
theorem qH_tick : z_Cl mH_tick 1 := ⟨woH_tick, wzH, ⟨by decide, by decide⟩, by decide +kernel⟩
theorem qH_consent : z_Cl mH_consent 3 := ⟨woH_consent, wzH, ⟨by decide, by decide⟩, by decide +kernel⟩
theorem qH_stage : z_Cl mH_stage 1 := ⟨woH_stage, wzH, ⟨by decide, by decide⟩, by decide +kernel⟩
theorem qH_signatures : z_Cl mH_signatures 2 := ⟨woH_signatures, wzH, ⟨by decide, by decide⟩, by decide +kernel⟩
theorem qH_verdict : z_Cl mH_verdict 1 := ⟨woH_verdict, wzH, ⟨by decide, by decide⟩, by decide +kernel⟩
theorem qH_spender : z_Cl mH_spender 2 := ⟨woH_spender, wzH, ⟨by decide, by decide⟩, by decide +kernel⟩
theorem qH_standing : z_Cl mH_standing 2 := ⟨woH_standing, wzH, ⟨by decide, by decide⟩, by decide +kernel⟩
theorem qH_vault : z_Cl mH_vault 2 := ⟨woH_vault, wzH, ⟨by decide, by decide⟩, by decide +kernel⟩
theorem qH_balance : z_Cl mH_balance 2 := ⟨woH_balance, wzH, ⟨by decide, by decide⟩, by decide +kernel⟩
theorem qH_fetched : z_Cl mH_fetched 1 := ⟨woH_fetched, wzH, ⟨by decide, by decide⟩, by decide +kernel⟩
theorem qH_tree : z_Cl mH_tree 3 := ⟨woH_tree, wzH, ⟨by decide, by decide⟩, by decide +kernel⟩
theorem qT_leaf : z_Cl mT_leaf 1 := ⟨woT_leaf, wzT, ⟨by decide, by decide⟩, by decide +kernel⟩
theorem qT_inputLeaf : z_Cl mT_inputLeaf 1 := ⟨woT_inputLeaf, wzT, ⟨by decide, by decide⟩, by decide +kernel⟩
theorem qT_outputLeaf : z_Cl mT_outputLeaf 1 := ⟨woT_outputLeaf, wzT, ⟨by decide, by decide⟩, by decide +kernel⟩
theorem qS_leafValue : z_Cl mS_leafValue 0 := ⟨woS_leafValue, wzS, ⟨by decide, by decide⟩, by decide +kernel⟩
theorem qH_mix : z_Cl mH_mix 2 := ⟨woH_mix, wzH, ⟨by decide, by decide⟩, by decide +kernel⟩
theorem qR_init : z_Cl mR_init 0 := ⟨woR_init, wzR, ⟨by decide, by decide⟩, by decide +kernel⟩
theorem qR_begin : z_Cl mR_begin 4 := ⟨woR_begin, wzR, ⟨by decide, by decide⟩, by decide +kernel⟩
theorem qR_isNode : z_Cl mR_isNode 1 := ⟨woR_isNode, wzR, ⟨by decide, by decide⟩, by decide +kernel⟩
theorem qR_consume : z_Cl mR_consume 3 := ⟨woR_consume, wzR, ⟨by decide, by decide⟩, by decide +kernel⟩
theorem qR_isTx : z_Cl mR_isTx 1 := ⟨woR_isTx, wzR, ⟨by decide, by decide⟩, by decide +kernel⟩
theorem qR_isState : z_Cl mR_isState 2 := ⟨woR_isState, wzR, ⟨by decide, by decide⟩, by decide +kernel⟩
theorem qR_isInput : z_Cl mR_isInput 2 := ⟨woR_isInput, wzR, ⟨by decide, by decide⟩, by decide +kernel⟩
theorem qR_addInput : z_Cl mR_addInput 2 := ⟨woR_addInput, wzR, ⟨by decide, by decide⟩, by decide +kernel⟩
theorem qR_produce : z_Cl mR_produce 5 := ⟨woR_produce, wzR, ⟨by decide, by decide⟩, by decide +kernel⟩
theorem qR_addOutput : z_Cl mR_addOutput 5 := ⟨woR_addOutput, wzR, ⟨by decide, by decide⟩, by decide +kernel⟩
theorem qR_bind : z_Cl mR_bind 3 := ⟨woR_bind, wzR, ⟨by decide, by decide⟩, by decide +kernel⟩
theorem qR_pay : z_Cl mR_pay 4 := ⟨woR_pay, wzR, ⟨by decide, by decide⟩, by decide +kernel⟩
theorem qR_coin : z_Cl mR_coin 3 := ⟨woR_coin, wzR, ⟨by decide, by decide⟩, by decide +kernel⟩
theorem qR_inVault : z_Cl mR_inVault 2 := ⟨woR_inVault, wzR, ⟨by decide, by decide⟩, by decide +kernel⟩
theorem qR_concerns : z_Cl mR_concerns 2 := ⟨woR_concerns, wzR, ⟨by decide, by decide⟩, by decide +kernel⟩
theorem qR_held : z_Cl mR_held 2 := ⟨woR_held, wzR, ⟨by decide, by decide⟩, by decide +kernel⟩
theorem qR_drop : z_Cl mR_drop 1 := ⟨woR_drop, wzR, ⟨by decide, by decide⟩, by decide +kernel⟩
theorem qR_propose : z_Cl mR_propose 2 := ⟨woR_propose, wzR, ⟨by decide, by decide⟩, by decide +kernel⟩
theorem qR_valid : z_Cl mR_valid 1 := ⟨woR_valid, wzR, ⟨by decide, by decide⟩, by decide +kernel⟩
theorem qR_alone : z_Cl mR_alone 1 := ⟨woR_alone, wzR, ⟨by decide, by decide⟩, by decide +kernel⟩
theorem qR_needs : z_Cl mR_needs 1 := ⟨woR_needs, wzR, ⟨by decide, by decide⟩, by decide +kernel⟩
theorem qR_mustSign : z_Cl mR_mustSign 2 := ⟨woR_mustSign, wzR, ⟨by decide, by decide⟩, by decide +kernel⟩
theorem qR_gain : z_Cl mR_gain 4 := ⟨woR_gain, wzR, ⟨by decide, by decide⟩, by decide +kernel⟩
theorem qR_letDown : z_Cl mR_letDown 2 := ⟨woR_letDown, wzR, ⟨by decide, by decide⟩, by decide +kernel⟩
theorem qR_send : z_Cl mR_send 5 := ⟨woR_send, wzR, ⟨by decide, by decide⟩, by decide +kernel⟩
theorem qR_deliver : z_Cl mR_deliver 2 := ⟨woR_deliver, wzR, ⟨by decide, by decide⟩, by decide +kernel⟩
theorem qR_ask : z_Cl mR_ask 3 := ⟨woR_ask, wzR, ⟨by decide, by decide⟩, by decide +kernel⟩
theorem qR_fetch : z_Cl mR_fetch 2 := ⟨woR_fetch, wzR, ⟨by decide, by decide⟩, by decide +kernel⟩
theorem qR_reply : z_Cl mR_reply 4 := ⟨woR_reply, wzR, ⟨by decide, by decide⟩, by decide +kernel⟩
theorem qR_notarise : z_Cl mR_notarise 1 := ⟨woR_notarise, wzR, ⟨by decide, by decide⟩, by decide +kernel⟩
theorem qR_judge : z_Cl mR_judge 1 := ⟨woR_judge, wzR, ⟨by decide, by decide⟩, by decide +kernel⟩
theorem qR_sound : z_Cl mR_sound 1 := ⟨woR_sound, wzR, ⟨by decide, by decide⟩, by decide +kernel⟩
theorem qR_hear : z_Cl mR_hear 3 := ⟨woR_hear, wzR, ⟨by decide, by decide⟩, by decide +kernel⟩
theorem qR_told : z_Cl mR_told 2 := ⟨woR_told, wzR, ⟨by decide, by decide⟩, by decide +kernel⟩
theorem qR_close : z_Cl mR_close 3 := ⟨woR_close, wzR, ⟨by decide, by decide⟩, by decide +kernel⟩
theorem qR_message : z_Cl mR_message 1 := ⟨woR_message, wzR, ⟨by decide, by decide⟩, by decide +kernel⟩
theorem qR_tick : z_Cl mR_tick 1 := ⟨woR_tick, wzR, ⟨by decide, by decide⟩, by decide +kernel⟩
theorem qR_consent : z_Cl mR_consent 3 := ⟨woR_consent, wzR, ⟨by decide, by decide⟩, by decide +kernel⟩
theorem qR_stage : z_Cl mR_stage 1 := ⟨woR_stage, wzR, ⟨by decide, by decide⟩, by decide +kernel⟩
theorem qR_signatures : z_Cl mR_signatures 2 := ⟨woR_signatures, wzR, ⟨by decide, by decide⟩, by decide +kernel⟩
theorem qR_verdict : z_Cl mR_verdict 1 := ⟨woR_verdict, wzR, ⟨by decide, by decide⟩, by decide +kernel⟩
theorem qR_spender : z_Cl mR_spender 2 := ⟨woR_spender, wzR, ⟨by decide, by decide⟩, by decide +kernel⟩
theorem qR_standing : z_Cl mR_standing 2 := ⟨woR_standing, wzR, ⟨by decide, by decide⟩, by decide +kernel⟩
theorem qR_vault : z_Cl mR_vault 2 := ⟨woR_vault, wzR, ⟨by decide, by decide⟩, by decide +kernel⟩
theorem qR_balance : z_Cl mR_balance 2 := ⟨woR_balance, wzR, ⟨by decide, by decide⟩, by decide +kernel⟩
theorem qR_fetched : z_Cl mR_fetched 1 := ⟨woR_fetched, wzR, ⟨by decide, by decide⟩, by decide +kernel⟩
theorem qR_tree : z_Cl mR_tree 3 := ⟨woR_tree, wzR, ⟨by decide, by decide⟩, by decide +kernel⟩
theorem qR_leaf : z_Cl mR_leaf 2 := ⟨woR_leaf, wzR, ⟨by decide, by decide⟩, by decide +kernel⟩
theorem kB_19 : z_LV "NotaryHall$Mailbox" 19 mB_isWaiting 1 := ⟨wmB_19, wiB_isWaiting, wvB_isWaiting, qB_isWaiting⟩
theorem kB_23 : z_LV "NotaryHall$Mailbox" 23 mB_holdsPlace 1 := ⟨wmB_23, wiB_holdsPlace, wvB_holdsPlace, qB_holdsPlace⟩
theorem kH_21 : z_LI "NotaryHall" 21 mN_init 0 := ⟨wmH_21, wiN_init, rfl, rfl, qN_init⟩
theorem kH_24 : z_LI "NotaryHall" 24 mB_init 0 := ⟨wmH_24, wiB_init, rfl, rfl, qB_init⟩
theorem kH_33 : z_LS "NotaryHall" 33 mJA_fill 2 := ⟨wmH_33, wtJA_fill, qJA_fill⟩
theorem kH_45 : z_LS "NotaryHall" 45 mH_isNode 1 := ⟨wmH_45, wtH_isNode, qH_isNode⟩
theorem kH_49 : z_LS "NotaryHall" 49 mH_isNotary 1 := ⟨wmH_49, wtH_isNotary, qH_isNotary⟩
theorem kH_57 : z_LI "NotaryHall" 57 mT_init 5 := ⟨wmH_57, wiT_init, rfl, rfl, qT_init⟩
theorem kH_60 : z_LV "NotaryHall" 60 mH_find 1 := ⟨wmH_60, wiH_find, wvH_find, qH_find⟩
theorem kH_64 : z_LV "NotaryHall" 64 mH_findState 2 := ⟨wmH_64, wiH_findState, wvH_findState, qH_findState⟩
theorem kH_77 : z_LS "NotaryHall" 77 mH_has 2 := ⟨wmH_77, wtH_has, qH_has⟩
theorem kH_93 : z_LV "NotaryHall" 93 mL_holds 1 := ⟨wmH_93, wiL_holds, wvL_holds, qL_holds⟩
theorem kH_98 : z_LV "NotaryHall" 98 mL_hasRoomFor 1 := ⟨wmH_98, wiL_hasRoomFor, wvL_hasRoomFor, qL_hasRoomFor⟩
theorem kH_101 : z_LV "NotaryHall" 101 mT_addInput 2 := ⟨wmH_101, wiT_addInput, wvT_addInput, qT_addInput⟩
theorem kH_105 : z_LS "NotaryHall" 105 mH_isContent 3 := ⟨wmH_105, wtH_isContent, qH_isContent⟩
theorem kH_109 : z_LS "NotaryHall" 109 mH_isAmount 1 := ⟨wmH_109, wtH_isAmount, qH_isAmount⟩
theorem kH_115 : z_LV "NotaryHall" 115 mT_addOutput 4 := ⟨wmH_115, wiT_addOutput, wvT_addOutput, qT_addOutput⟩
theorem kH_122 : z_LV "NotaryHall" 122 mH_stateNumbersEnd 0 := ⟨wmH_122, wiH_stateNumbersEnd, wvH_stateNumbersEnd, qH_stateNumbersEnd⟩
theorem kH_126 : z_LV "NotaryHall" 126 mH_stateNumbered 1 := ⟨wmH_126, wiH_stateNumbered, wvH_stateNumbered, qH_stateNumbered⟩
theorem kH_130 : z_LV "NotaryHall" 130 mH_isCoin 3 := ⟨wmH_130, wiH_isCoin, wvH_isCoin, qH_isCoin⟩
theorem kH_137 : z_LV "NotaryHall" 137 mH_takeCoins 2 := ⟨wmH_137, wiH_takeCoins, wvH_takeCoins, qH_takeCoins⟩
theorem kH_141 : z_LV "NotaryHall" 141 mT_isValid 0 := ⟨wmH_141, wiT_isValid, wvT_isValid, qT_isValid⟩
theorem kH_145 : z_LV "NotaryHall" 145 mT_seal 1 := ⟨wmH_145, wiT_seal, wvT_seal, qT_seal⟩
theorem kH_149 : z_LV "NotaryHall" 149 mT_needsNobodyElse 0 := ⟨wmH_149, wiT_needsNobodyElse, wvT_needsNobodyElse, qT_needsNobodyElse⟩
theorem kH_152 : z_LV "NotaryHall" 152 mH_sendNotarise 1 := ⟨wmH_152, wiH_sendNotarise, wvH_sendNotarise, qH_sendNotarise⟩
theorem kH_159 : z_LV "NotaryHall" 159 mH_sendToOthers 3 := ⟨wmH_159, wiH_sendToOthers, wvH_sendToOthers, qH_sendToOthers⟩
theorem kH_163 : z_LV "NotaryHall" 163 mB_holdsPlace 1 := ⟨wmH_163, wiB_holdsPlace, wvB_holdsPlace, qB_holdsPlace⟩
theorem kH_169 : z_LV "NotaryHall" 169 mH_receive 2 := ⟨wmH_169, wiH_receive, wvH_receive, qH_receive⟩
theorem kH_173 : z_LV "NotaryHall" 173 mB_removeAt 1 := ⟨wmH_173, wiB_removeAt, wvB_removeAt, qB_removeAt⟩
theorem kH_186 : z_LS "NotaryHall" 186 mH_bit 1 := ⟨wmH_186, wtH_bit, qH_bit⟩
theorem kH_190 : z_LV "NotaryHall" 190 mT_needs 0 := ⟨wmH_190, wiT_needs, wvT_needs, qT_needs⟩
theorem kH_202 : z_LV "NotaryHall" 202 mH_isInVault 2 := ⟨wmH_202, wiH_isInVault, wvH_isInVault, qH_isInVault⟩
theorem kH_206 : z_LV "NotaryHall" 206 mS_isCashIssuedBy 1 := ⟨wmH_206, wiS_isCashIssuedBy, wvS_isCashIssuedBy, qS_isCashIssuedBy⟩
theorem kH_212 : z_LV "NotaryHall" 212 mT_leaf 1 := ⟨wmH_212, wiT_leaf, wvT_leaf, qT_leaf⟩
theorem kH_215 : z_LS "NotaryHall" 215 mH_mix 2 := ⟨wmH_215, wtH_mix, qH_mix⟩
theorem kH_219 : z_LS "NotaryHall" 219 mB_transactionOf 1 := ⟨wmH_219, wtB_transactionOf, qB_transactionOf⟩
theorem kH_222 : z_LS "NotaryHall" 222 mB_receiverOf 1 := ⟨wmH_222, wtB_receiverOf, qB_receiverOf⟩
theorem kH_225 : z_LS "NotaryHall" 225 mB_contentOf 1 := ⟨wmH_225, wtB_contentOf, qB_contentOf⟩
theorem kH_228 : z_LS "NotaryHall" 228 mB_kindOf 1 := ⟨wmH_228, wtB_kindOf, qB_kindOf⟩
theorem kH_231 : z_LV "NotaryHall" 231 mH_receiveAsk 3 := ⟨wmH_231, wiH_receiveAsk, wvH_receiveAsk, qH_receiveAsk⟩
theorem kH_235 : z_LS "NotaryHall" 235 mB_senderOf 1 := ⟨wmH_235, wtB_senderOf, qB_senderOf⟩
theorem kH_238 : z_LV "NotaryHall" 238 mH_receiveReply 4 := ⟨wmH_238, wiH_receiveReply, wvH_receiveReply, qH_receiveReply⟩
theorem kH_242 : z_LV "NotaryHall" 242 mH_receiveNotarise 1 := ⟨wmH_242, wiH_receiveNotarise, wvH_receiveNotarise, qH_receiveNotarise⟩
theorem kH_245 : z_LV "NotaryHall" 245 mH_receiveVerdict 3 := ⟨wmH_245, wiH_receiveVerdict, wvH_receiveVerdict, qH_receiveVerdict⟩
theorem kH_248 : z_LV "NotaryHall" 248 mH_receiveFinality 3 := ⟨wmH_248, wiH_receiveFinality, wvH_receiveFinality, qH_receiveFinality⟩
theorem kH_251 : z_LV "NotaryHall" 251 mT_decide 2 := ⟨wmH_251, wiT_decide, wvT_decide, qT_decide⟩
theorem kH_261 : z_LV "NotaryHall" 261 mN_fetch 1 := ⟨wmH_261, wiN_fetch, wvN_fetch, qN_fetch⟩
theorem kH_264 : z_LV "NotaryHall" 264 mH_send 5 := ⟨wmH_264, wiH_send, wvH_send, qH_send⟩
theorem kH_268 : z_LV "NotaryHall" 268 mH_judge 1 := ⟨wmH_268, wiH_judge, wvH_judge, qH_judge⟩
theorem kH_271 : z_LV "NotaryHall" 271 mH_useUpInputs 1 := ⟨wmH_271, wiH_useUpInputs, wvH_useUpInputs, qH_useUpInputs⟩
theorem kH_275 : z_LV "NotaryHall" 275 mT_concerned 0 := ⟨wmH_275, wiT_concerned, wvT_concerned, qT_concerned⟩
theorem kH_278 : z_LV "NotaryHall" 278 mH_settle 2 := ⟨wmH_278, wiH_settle, wvH_settle, qH_settle⟩
theorem kH_286 : z_LV "NotaryHall" 286 mN_enter 1 := ⟨wmH_286, wiN_enter, wvN_enter, qN_enter⟩
theorem kH_295 : z_LV "NotaryHall" 295 mH_isAnyInputUsedUp 1 := ⟨wmH_295, wiH_isAnyInputUsedUp, wvH_isAnyInputUsedUp, qH_isAnyInputUsedUp⟩
theorem kH_304 : z_LS "NotaryHall" 304 mB_code 5 := ⟨wmH_304, wtB_code, qB_code⟩
theorem kH_308 : z_LV "NotaryHall" 308 mB_post 1 := ⟨wmH_308, wiB_post, wvB_post, qB_post⟩
theorem kH_311 : z_LV "NotaryHall" 311 mS_source 0 := ⟨wmH_311, wiS_source, wvS_source, qS_source⟩
theorem kH_314 : z_LV "NotaryHall" 314 mS_concerns 1 := ⟨wmH_314, wiS_concerns, wvS_concerns, qS_concerns⟩
theorem kH_317 : z_LV "NotaryHall" 317 mH_isKnownInput 2 := ⟨wmH_317, wiH_isKnownInput, wvH_isKnownInput, qH_isKnownInput⟩
theorem kH_320 : z_LV "NotaryHall" 320 mT_isOpen 0 := ⟨wmH_320, wiT_isOpen, wvT_isOpen, qT_isOpen⟩
theorem kH_323 : z_LV "NotaryHall" 323 mS_isBound 0 := ⟨wmH_323, wiS_isBound, wvS_isBound, qS_isBound⟩
theorem kH_326 : z_LV "NotaryHall" 326 mH_isHeld 2 := ⟨wmH_326, wiH_isHeld, wvH_isHeld, qH_isHeld⟩
theorem kL_24 : z_LV "NotaryHall$StateList" 24 mS_isCashOwnedBy 1 := ⟨wmL_24, wiS_isCashOwnedBy, wvS_isCashOwnedBy, qS_isCashOwnedBy⟩
theorem kL_28 : z_LV "NotaryHall$StateList" 28 mS_isCashIssuedBy 1 := ⟨wmL_28, wiS_isCashIssuedBy, wvS_isCashIssuedBy, qS_isCashIssuedBy⟩
theorem kL_34 : z_LV "NotaryHall$StateList" 34 mS_isDebtOf 2 := ⟨wmL_34, wiS_isDebtOf, wvS_isDebtOf, qS_isDebtOf⟩
theorem kN_9 : z_LN "NotaryHall$Node" 9 mH_bit 1 := ⟨⟨"NotaryHall", by decide⟩, wtH_bit, qH_bit⟩
theorem kN_25 : z_LS "NotaryHall$Node" 25 mJI_bitCount 1 := ⟨wmN_25, wtJI_bitCount, qJI_bitCount⟩
theorem kR_87 : z_LV "NotaryHallModel" 87 mR_isTx 1 := ⟨wmR_87, wiR_isTx, wvR_isTx, qR_isTx⟩
theorem kR_91 : z_LV "NotaryHallModel" 91 mR_isNode 1 := ⟨wmR_91, wiR_isNode, wvR_isNode, qR_isNode⟩
theorem kR_95 : z_LV "NotaryHallModel" 95 mR_isState 2 := ⟨wmR_95, wiR_isState, wvR_isState, qR_isState⟩
theorem kR_99 : z_LV "NotaryHallModel" 99 mR_isInput 2 := ⟨wmR_99, wiR_isInput, wvR_isInput, qR_isInput⟩
theorem kR_102 : z_LV "NotaryHallModel" 102 mR_addInput 2 := ⟨wmR_102, wiR_addInput, wvR_addInput, qR_addInput⟩
theorem kR_106 : z_LV "NotaryHallModel" 106 mR_addOutput 5 := ⟨wmR_106, wiR_addOutput, wvR_addOutput, qR_addOutput⟩
theorem kR_110 : z_LV "NotaryHallModel" 110 mR_concerns 2 := ⟨wmR_110, wiR_concerns, wvR_concerns, qR_concerns⟩
theorem kR_113 : z_LV "NotaryHallModel" 113 mR_inVault 2 := ⟨wmR_113, wiR_inVault, wvR_inVault, qR_inVault⟩
theorem kR_116 : z_LV "NotaryHallModel" 116 mR_held 2 := ⟨wmR_116, wiR_held, wvR_held, qR_held⟩
theorem kR_119 : z_LV "NotaryHallModel" 119 mR_coin 3 := ⟨wmR_119, wiR_coin, wvR_coin, qR_coin⟩
theorem kR_123 : z_LV "NotaryHallModel" 123 mR_gain 4 := ⟨wmR_123, wiR_gain, wvR_gain, qR_gain⟩
theorem kR_127 : z_LV "NotaryHallModel" 127 mR_letDown 2 := ⟨wmR_127, wiR_letDown, wvR_letDown, qR_letDown⟩
theorem kR_130 : z_LV "NotaryHallModel" 130 mR_mustSign 2 := ⟨wmR_130, wiR_mustSign, wvR_mustSign, qR_mustSign⟩
theorem kR_133 : z_LV "NotaryHallModel" 133 mR_needs 1 := ⟨wmR_133, wiR_needs, wvR_needs, qR_needs⟩
theorem kR_137 : z_LV "NotaryHallModel" 137 mR_valid 1 := ⟨wmR_137, wiR_valid, wvR_valid, qR_valid⟩
theorem kR_140 : z_LV "NotaryHallModel" 140 mR_alone 1 := ⟨wmR_140, wiR_alone, wvR_alone, qR_alone⟩
theorem kR_146 : z_LV "NotaryHallModel" 146 mR_send 5 := ⟨wmR_146, wiR_send, wvR_send, qR_send⟩
theorem kR_150 : z_LV "NotaryHallModel" 150 mR_ask 3 := ⟨wmR_150, wiR_ask, wvR_ask, qR_ask⟩
theorem kR_154 : z_LV "NotaryHallModel" 154 mR_reply 4 := ⟨wmR_154, wiR_reply, wvR_reply, qR_reply⟩
theorem kR_158 : z_LV "NotaryHallModel" 158 mR_notarise 1 := ⟨wmR_158, wiR_notarise, wvR_notarise, qR_notarise⟩
theorem kR_162 : z_LV "NotaryHallModel" 162 mR_hear 3 := ⟨wmR_162, wiR_hear, wvR_hear, qR_hear⟩
theorem kR_166 : z_LV "NotaryHallModel" 166 mR_close 3 := ⟨wmR_166, wiR_close, wvR_close, qR_close⟩
theorem kR_169 : z_LV "NotaryHallModel" 169 mR_fetch 2 := ⟨wmR_169, wiR_fetch, wvR_fetch, qR_fetch⟩
theorem kR_175 : z_LV "NotaryHallModel" 175 mR_sound 1 := ⟨wmR_175, wiR_sound, wvR_sound, qR_sound⟩
theorem kR_178 : z_LV "NotaryHallModel" 178 mR_judge 1 := ⟨wmR_178, wiR_judge, wvR_judge, qR_judge⟩
theorem kR_181 : z_LV "NotaryHallModel" 181 mR_told 2 := ⟨wmR_181, wiR_told, wvR_told, qR_told⟩
theorem kR_185 : z_LV "NotaryHallModel" 185 mR_leaf 2 := ⟨wmR_185, wiR_leaf, wvR_leaf, qR_leaf⟩
theorem kS_30 : z_LV "NotaryHall$State" 30 mS_source 0 := ⟨wmS_30, wiS_source, wvS_source, qS_source⟩
theorem kS_34 : z_LV "NotaryHall$State" 34 mS_isCashOwnedBy 1 := ⟨wmS_34, wiS_isCashOwnedBy, wvS_isCashOwnedBy, qS_isCashOwnedBy⟩
theorem kT_29 : z_LI "NotaryHall$Transaction" 29 mL_init 0 := ⟨wmT_29, wiL_init, rfl, rfl, qL_init⟩
theorem kT_46 : z_LN "NotaryHall$Transaction" 46 mH_bit 1 := ⟨⟨"NotaryHall", by decide⟩, wtH_bit, qH_bit⟩
theorem kT_50 : z_LV "NotaryHall$Transaction" 50 mL_add 1 := ⟨wmT_50, wiL_add, wvL_add, qL_add⟩
theorem kT_59 : z_LI "NotaryHall$Transaction" 59 mS_init 5 := ⟨wmT_59, wiS_init, rfl, rfl, qS_init⟩
theorem kT_65 : z_LN "NotaryHall$Transaction" 65 mH_has 2 := ⟨⟨"NotaryHall", by decide⟩, wtH_has, qH_has⟩
theorem kT_75 : z_LV "NotaryHall$Transaction" 75 mT_needs 0 := ⟨wmT_75, wiT_needs, wvT_needs, qT_needs⟩
theorem kT_82 : z_LV "NotaryHall$Transaction" 82 mT_isValid 0 := ⟨wmT_82, wiT_isValid, wvT_isValid, qT_isValid⟩
theorem kT_86 : z_LV "NotaryHall$Transaction" 86 mT_needsNobodyElse 0 := ⟨wmT_86, wiT_needsNobodyElse, wvT_needsNobodyElse, qT_needsNobodyElse⟩
theorem kT_97 : z_LV "NotaryHall$Transaction" 97 mT_allowsInput 1 := ⟨wmT_97, wiT_allowsInput, wvT_allowsInput, qT_allowsInput⟩
theorem kT_101 : z_LV "NotaryHall$Transaction" 101 mS_isBound 0 := ⟨wmT_101, wiS_isBound, wvS_isBound, qS_isBound⟩
theorem kT_104 : z_LV "NotaryHall$Transaction" 104 mS_boundNumber 0 := ⟨wmT_104, wiS_boundNumber, wvS_boundNumber, qS_boundNumber⟩
theorem kT_107 : z_LV "NotaryHall$Transaction" 107 mL_holds 1 := ⟨wmT_107, wiL_holds, wvL_holds, qL_holds⟩
theorem kT_117 : z_LV "NotaryHall$Transaction" 117 mT_mustSign 1 := ⟨wmT_117, wiT_mustSign, wvT_mustSign, qT_mustSign⟩
theorem kT_120 : z_LV "NotaryHall$Transaction" 120 mL_holdsCashOwnedBy 1 := ⟨wmT_120, wiL_holdsCashOwnedBy, wvL_holdsCashOwnedBy, qL_holdsCashOwnedBy⟩
theorem kT_123 : z_LV "NotaryHall$Transaction" 123 mL_cashIssuedBy 1 := ⟨wmT_123, wiL_cashIssuedBy, wvL_cashIssuedBy, qL_cashIssuedBy⟩
theorem kT_126 : z_LV "NotaryHall$Transaction" 126 mT_owesMore 1 := ⟨wmT_126, wiT_owesMore, wvT_owesMore, qT_owesMore⟩
theorem kT_129 : z_LV "NotaryHall$Transaction" 129 mT_isLetDown 1 := ⟨wmT_129, wiT_isLetDown, wvT_isLetDown, qT_isLetDown⟩
theorem kT_132 : z_LV "NotaryHall$Transaction" 132 mL_debtOf 2 := ⟨wmT_132, wiL_debtOf, wvL_debtOf, qL_debtOf⟩
theorem kT_136 : z_LS "NotaryHall$Transaction" 136 mJM_max 2 := ⟨wmT_136, wtJM_max, qJM_max⟩
theorem kT_141 : z_LV "NotaryHall$Transaction" 141 mL_cashOwnedBy 1 := ⟨wmT_141, wiL_cashOwnedBy, wvL_cashOwnedBy, qL_cashOwnedBy⟩
theorem kT_144 : z_LV "NotaryHall$Transaction" 144 mS_concerns 1 := ⟨wmT_144, wiS_concerns, wvS_concerns, qS_concerns⟩
theorem kT_147 : z_LV "NotaryHall$Transaction" 147 mT_inputLeaf 1 := ⟨wmT_147, wiT_inputLeaf, wvT_inputLeaf, qT_inputLeaf⟩
theorem kT_150 : z_LV "NotaryHall$Transaction" 150 mT_outputLeaf 1 := ⟨wmT_150, wiT_outputLeaf, wvT_outputLeaf, qT_outputLeaf⟩
theorem kT_154 : z_LV "NotaryHall$Transaction" 154 mS_leafValue 0 := ⟨wmT_154, wiS_leafValue, wvS_leafValue, qS_leafValue⟩
theorem kW_9 : z_LI "NotaryHallLaw" 9 mH_init 0 := ⟨wmW_9, wiH_init, rfl, rfl, qH_init⟩
theorem kW_12 : z_LI "NotaryHallLaw" 12 mR_init 0 := ⟨wmW_12, wiR_init, rfl, rfl, qR_init⟩
theorem kW_13 : z_LV "NotaryHallLaw" 13 mH_begin 4 := ⟨wmW_13, wiH_begin, wvH_begin, qH_begin⟩
theorem kW_17 : z_LV "NotaryHallLaw" 17 mR_begin 4 := ⟨wmW_17, wiR_begin, wvR_begin, qR_begin⟩
theorem kW_18 : z_LV "NotaryHallLaw" 18 mH_consume 3 := ⟨wmW_18, wiH_consume, wvH_consume, qH_consume⟩
theorem kW_22 : z_LV "NotaryHallLaw" 22 mR_consume 3 := ⟨wmW_22, wiR_consume, wvR_consume, qR_consume⟩
theorem kW_23 : z_LV "NotaryHallLaw" 23 mH_produce 5 := ⟨wmW_23, wiH_produce, wvH_produce, qH_produce⟩
theorem kW_27 : z_LV "NotaryHallLaw" 27 mR_produce 5 := ⟨wmW_27, wiR_produce, wvR_produce, qR_produce⟩
theorem kW_28 : z_LV "NotaryHallLaw" 28 mH_bind 3 := ⟨wmW_28, wiH_bind, wvH_bind, qH_bind⟩
theorem kW_31 : z_LV "NotaryHallLaw" 31 mR_bind 3 := ⟨wmW_31, wiR_bind, wvR_bind, qR_bind⟩
theorem kW_32 : z_LV "NotaryHallLaw" 32 mH_pay 4 := ⟨wmW_32, wiH_pay, wvH_pay, qH_pay⟩
theorem kW_35 : z_LV "NotaryHallLaw" 35 mR_pay 4 := ⟨wmW_35, wiR_pay, wvR_pay, qR_pay⟩
theorem kW_36 : z_LV "NotaryHallLaw" 36 mH_drop 1 := ⟨wmW_36, wiH_drop, wvH_drop, qH_drop⟩
theorem kW_40 : z_LV "NotaryHallLaw" 40 mR_drop 1 := ⟨wmW_40, wiR_drop, wvR_drop, qR_drop⟩
theorem kW_41 : z_LV "NotaryHallLaw" 41 mH_propose 2 := ⟨wmW_41, wiH_propose, wvH_propose, qH_propose⟩
theorem kW_45 : z_LV "NotaryHallLaw" 45 mR_propose 2 := ⟨wmW_45, wiR_propose, wvR_propose, qR_propose⟩
theorem kW_46 : z_LV "NotaryHallLaw" 46 mH_deliver 2 := ⟨wmW_46, wiH_deliver, wvH_deliver, qH_deliver⟩
theorem kW_49 : z_LV "NotaryHallLaw" 49 mR_deliver 2 := ⟨wmW_49, wiR_deliver, wvR_deliver, qR_deliver⟩
theorem kW_50 : z_LV "NotaryHallLaw" 50 mH_message 1 := ⟨wmW_50, wiH_message, wvH_message, qH_message⟩
theorem kW_54 : z_LV "NotaryHallLaw" 54 mR_message 1 := ⟨wmW_54, wiR_message, wvR_message, qR_message⟩
theorem kW_55 : z_LV "NotaryHallLaw" 55 mH_tick 1 := ⟨wmW_55, wiH_tick, wvH_tick, qH_tick⟩
theorem kW_58 : z_LV "NotaryHallLaw" 58 mR_tick 1 := ⟨wmW_58, wiR_tick, wvR_tick, qR_tick⟩
theorem kW_59 : z_LV "NotaryHallLaw" 59 mH_consent 3 := ⟨wmW_59, wiH_consent, wvH_consent, qH_consent⟩
theorem kW_63 : z_LV "NotaryHallLaw" 63 mR_consent 3 := ⟨wmW_63, wiR_consent, wvR_consent, qR_consent⟩
theorem kW_64 : z_LV "NotaryHallLaw" 64 mH_stage 1 := ⟨wmW_64, wiH_stage, wvH_stage, qH_stage⟩
theorem kW_67 : z_LV "NotaryHallLaw" 67 mR_stage 1 := ⟨wmW_67, wiR_stage, wvR_stage, qR_stage⟩
theorem kW_68 : z_LV "NotaryHallLaw" 68 mH_signatures 2 := ⟨wmW_68, wiH_signatures, wvH_signatures, qH_signatures⟩
theorem kW_71 : z_LV "NotaryHallLaw" 71 mR_signatures 2 := ⟨wmW_71, wiR_signatures, wvR_signatures, qR_signatures⟩
theorem kW_72 : z_LV "NotaryHallLaw" 72 mH_verdict 1 := ⟨wmW_72, wiH_verdict, wvH_verdict, qH_verdict⟩
theorem kW_75 : z_LV "NotaryHallLaw" 75 mR_verdict 1 := ⟨wmW_75, wiR_verdict, wvR_verdict, qR_verdict⟩
theorem kW_76 : z_LV "NotaryHallLaw" 76 mH_spender 2 := ⟨wmW_76, wiH_spender, wvH_spender, qH_spender⟩
theorem kW_80 : z_LV "NotaryHallLaw" 80 mR_spender 2 := ⟨wmW_80, wiR_spender, wvR_spender, qR_spender⟩
theorem kW_81 : z_LV "NotaryHallLaw" 81 mH_standing 2 := ⟨wmW_81, wiH_standing, wvH_standing, qH_standing⟩
theorem kW_84 : z_LV "NotaryHallLaw" 84 mR_standing 2 := ⟨wmW_84, wiR_standing, wvR_standing, qR_standing⟩
theorem kW_85 : z_LV "NotaryHallLaw" 85 mH_vault 2 := ⟨wmW_85, wiH_vault, wvH_vault, qH_vault⟩
theorem kW_88 : z_LV "NotaryHallLaw" 88 mR_vault 2 := ⟨wmW_88, wiR_vault, wvR_vault, qR_vault⟩
theorem kW_89 : z_LV "NotaryHallLaw" 89 mH_balance 2 := ⟨wmW_89, wiH_balance, wvH_balance, qH_balance⟩
theorem kW_92 : z_LV "NotaryHallLaw" 92 mR_balance 2 := ⟨wmW_92, wiR_balance, wvR_balance, qR_balance⟩
theorem kW_93 : z_LV "NotaryHallLaw" 93 mH_fetched 1 := ⟨wmW_93, wiH_fetched, wvH_fetched, qH_fetched⟩
theorem kW_96 : z_LV "NotaryHallLaw" 96 mR_fetched 1 := ⟨wmW_96, wiR_fetched, wvR_fetched, qR_fetched⟩
theorem kW_97 : z_LV "NotaryHallLaw" 97 mH_tree 3 := ⟨wmW_97, wiH_tree, wvH_tree, qH_tree⟩
theorem kW_100 : z_LV "NotaryHallLaw" 100 mR_tree 3 := ⟨wmW_100, wiR_tree, wvR_tree, qR_tree⟩
theorem nH_9 : z_N "NotaryHall" 9 3 15 [zi 0, zi 0, zi 0, zi 0, zi 0, .null, .null, zi 0, zi 0, zi 0, zi 0, zi 0, zi 0, zi 0, zi 0] := ⟨"NotaryHall$Transaction", zTT, zYT, rfl, zLT, zKT, wcH_9, wqT, wzT, by decide +kernel, fun _ _ => rfl⟩
theorem nH_15 : z_N "NotaryHall" 15 1 4 [zi 0, zi 0, zi 0, zi 0] := ⟨"NotaryHall$Node", zTN, zYN, rfl, zLN, zKN, wcH_15, wqN, wzN, by decide +kernel, fun _ _ => rfl⟩
theorem nH_22 : z_N "NotaryHall" 22 2 2 [.null, zi 0] := ⟨"NotaryHall$Mailbox", zTB, zYB, rfl, zLB, zKB, wcH_22, wqB, wzB, by decide +kernel, fun _ _ => rfl⟩
theorem nT_27 : z_N "NotaryHall$Transaction" 27 4 2 [.null, zi 0] := ⟨"NotaryHall$StateList", zTL, zYL, rfl, zLL, zKL, wcT_27, wqL, wzL, by decide +kernel, fun _ _ => rfl⟩
theorem nT_54 : z_N "NotaryHall$Transaction" 54 5 6 [zi 0, zi 0, zi 0, zi 0, zi 0, zi 0] := ⟨"NotaryHall$State", zTS, zYS, rfl, zLS, zKS, wcT_54, wqS, wzS, by decide +kernel, fun _ _ => rfl⟩
theorem nW_7 : z_N "NotaryHallLaw" 7 0 8 [.null, zi 0, .null, .null, .null, .null, .null, zi 0] := ⟨"NotaryHall", zTH, zYH, rfl, zLH, zKH, wcW_7, wqH, wzH, by decide +kernel, fun _ _ => rfl⟩
theorem nW_10 : z_N "NotaryHallLaw" 10 6 27 [zi 0, .null, .null, .null, .null, .null, .null, .null, .null, .null, .null, .null, .null, .null, .null, .null, .null, .null, .null, .null, .null, .null, .null, zi 0, zi 0, .null, .null] := ⟨"NotaryHallModel", zTR, zYR, rfl, zLR, zKR, wcW_10, wqR, wzR, by decide +kernel, fun _ _ => rfl⟩
end
section
-- the cells: the class's twelve fixed ones, the reference's twenty-five, then what the class makes later (written by wip/whole/refenv.py)
def fixC (κ : z_Sg) (a : Int → Nat) : List va_E := [
  .inr (0, [.ref 1, zi (κ 0 0), .ref 2, .ref 7, .ref 9, .ref 10, .ref 11, zi (κ 1 0)]),
  zP 2 20 (fun i => if 0 ≤ i ∧ i < κ 0 0 then some (a i) else none),
  zP 4 4 (fun i => if 0 ≤ i ∧ i < 4 then some (3 + i.toNat) else none),
  .inr (1, [zi (κ 2 0), zi (κ 3 0), zi (κ 4 0), zi (κ 5 0)]),
  .inr (1, [zi (κ 2 1), zi (κ 3 1), zi (κ 4 1), zi (κ 5 1)]),
  .inr (1, [zi (κ 2 2), zi (κ 3 2), zi (κ 4 2), zi (κ 5 2)]),
  .inr (1, [zi (κ 2 3), zi (κ 3 3), zi (κ 4 3), zi (κ 5 3)]),
  .inr (2, [.ref 8, zi (κ 6 0)]),
  zA 0 220 (κ 7), zA 0 80 (κ 8), zA 0 80 (κ 9), zA 0 16 (κ 10)]
def fixR (ρ : z_Sg) : List va_E := [
  .inr (6, [zi (ρ 0 0), .ref 13, .ref 14, .ref 15, .ref 16, .ref 17, .ref 18, .ref 19, .ref 20, .ref 21, .ref 22, .ref 23, .ref 24, .ref 25, .ref 26, .ref 27, .ref 28, .ref 29, .ref 30, .ref 31, .ref 32, .ref 33, .ref 34, zi (ρ 23 0), zi (ρ 24 0), .ref 35, .ref 36]),
  zA 0 20 (ρ 1), zA 0 20 (ρ 2), zA 0 20 (ρ 3), zA 0 20 (ρ 4), zA 0 20 (ρ 5), zA 1 20 (ρ 6), zA 0 20 (ρ 7), zA 0 20 (ρ 8), zA 0 20 (ρ 9), zA 0 20 (ρ 10), zA 0 80 (ρ 11), zA 0 80 (ρ 12), zA 0 80 (ρ 13), zA 0 80 (ρ 14), zA 0 80 (ρ 15), zA 0 80 (ρ 16), zA 0 80 (ρ 17), zA 0 80 (ρ 18), zA 0 80 (ρ 19), zA 0 4 (ρ 20), zA 1 16 (ρ 21), zA 0 220 (ρ 22), zA 1 20 (ρ 25), zA 0 16 (ρ 26)]
def zM (κ : z_Sg) (a : Int → Nat) (ρ : z_Sg) (B : List va_E) : List va_E := fixC κ a ++ (fixR ρ ++ B)
section
variable {κ ρ : z_Sg} {a : Int → Nat} {B : List va_E}
theorem atR : (zM κ a ρ B)[12]? = some (.inr (6, [zi (ρ 0 0), .ref 13, .ref 14, .ref 15, .ref 16, .ref 17, .ref 18, .ref 19, .ref 20, .ref 21, .ref 22, .ref 23, .ref 24, .ref 25, .ref 26, .ref 27, .ref 28, .ref 29, .ref 30, .ref 31, .ref 32, .ref 33, .ref 34, zi (ρ 23 0), zi (ρ 24 0), .ref 35, .ref 36])) := rfl
theorem at_begunBy : (zM κ a ρ B)[13]? = some (zA 0 20 (ρ 1)) := rfl
theorem at_notaryOf : (zM κ a ρ B)[14]? = some (zA 0 20 (ρ 2)) := rfl
theorem at_fromTime : (zM κ a ρ B)[15]? = some (zA 0 20 (ρ 3)) := rfl
theorem at_untilTime : (zM κ a ρ B)[16]? = some (zA 0 20 (ρ 4)) := rfl
theorem at_stageOf : (zM κ a ρ B)[17]? = some (zA 0 20 (ρ 5)) := rfl
theorem at_hasty : (zM κ a ρ B)[18]? = some (zA 1 20 (ρ 6)) := rfl
theorem at_signed : (zM κ a ρ B)[19]? = some (zA 0 20 (ρ 7)) := rfl
theorem at_verdictOf : (zM κ a ρ B)[20]? = some (zA 0 20 (ρ 8)) := rfl
theorem at_inputs : (zM κ a ρ B)[21]? = some (zA 0 20 (ρ 9)) := rfl
theorem at_outputs : (zM κ a ρ B)[22]? = some (zA 0 20 (ρ 10)) := rfl
theorem at_input : (zM κ a ρ B)[23]? = some (zA 0 80 (ρ 11)) := rfl
theorem at_kindOf : (zM κ a ρ B)[24]? = some (zA 0 80 (ρ 12)) := rfl
theorem at_first : (zM κ a ρ B)[25]? = some (zA 0 80 (ρ 13)) := rfl
theorem at_second : (zM κ a ρ B)[26]? = some (zA 0 80 (ρ 14)) := rfl
theorem at_amountOf : (zM κ a ρ B)[27]? = some (zA 0 80 (ρ 15)) := rfl
theorem at_boundTo : (zM κ a ρ B)[28]? = some (zA 0 80 (ρ 16)) := rfl
theorem at_usedBy : (zM κ a ρ B)[29]? = some (zA 0 80 (ρ 17)) := rfl
theorem at_knows : (zM κ a ρ B)[30]? = some (zA 0 80 (ρ 18)) := rfl
theorem at_decided : (zM κ a ρ B)[31]? = some (zA 0 80 (ρ 19)) := rfl
theorem at_fetches : (zM κ a ρ B)[32]? = some (zA 0 4 (ρ 20)) := rfl
theorem at_declines : (zM κ a ρ B)[33]? = some (zA 1 16 (ρ 21)) := rfl
theorem at_waiting : (zM κ a ρ B)[34]? = some (zA 0 220 (ρ 22)) := rfl
theorem at_before : (zM κ a ρ B)[35]? = some (zA 1 20 (ρ 25)) := rfl
theorem at_mix : (zM κ a ρ B)[36]? = some (zA 0 16 (ρ 26)) := rfl
theorem st_begunBy {i v : Int} : (zM κ a ρ B).set 13 (zA 0 20 (zup (ρ 1) i v)) = zM κ a (z_up ρ 1 i v) B := rfl
theorem st_notaryOf {i v : Int} : (zM κ a ρ B).set 14 (zA 0 20 (zup (ρ 2) i v)) = zM κ a (z_up ρ 2 i v) B := rfl
theorem st_fromTime {i v : Int} : (zM κ a ρ B).set 15 (zA 0 20 (zup (ρ 3) i v)) = zM κ a (z_up ρ 3 i v) B := rfl
theorem st_untilTime {i v : Int} : (zM κ a ρ B).set 16 (zA 0 20 (zup (ρ 4) i v)) = zM κ a (z_up ρ 4 i v) B := rfl
theorem st_stageOf {i v : Int} : (zM κ a ρ B).set 17 (zA 0 20 (zup (ρ 5) i v)) = zM κ a (z_up ρ 5 i v) B := rfl
theorem st_hasty {i v : Int} : (zM κ a ρ B).set 18 (zA 1 20 (zup (ρ 6) i v)) = zM κ a (z_up ρ 6 i v) B := rfl
theorem st_signed {i v : Int} : (zM κ a ρ B).set 19 (zA 0 20 (zup (ρ 7) i v)) = zM κ a (z_up ρ 7 i v) B := rfl
theorem st_verdictOf {i v : Int} : (zM κ a ρ B).set 20 (zA 0 20 (zup (ρ 8) i v)) = zM κ a (z_up ρ 8 i v) B := rfl
theorem st_inputs {i v : Int} : (zM κ a ρ B).set 21 (zA 0 20 (zup (ρ 9) i v)) = zM κ a (z_up ρ 9 i v) B := rfl
theorem st_outputs {i v : Int} : (zM κ a ρ B).set 22 (zA 0 20 (zup (ρ 10) i v)) = zM κ a (z_up ρ 10 i v) B := rfl
theorem st_input {i v : Int} : (zM κ a ρ B).set 23 (zA 0 80 (zup (ρ 11) i v)) = zM κ a (z_up ρ 11 i v) B := rfl
theorem st_kindOf {i v : Int} : (zM κ a ρ B).set 24 (zA 0 80 (zup (ρ 12) i v)) = zM κ a (z_up ρ 12 i v) B := rfl
theorem st_first {i v : Int} : (zM κ a ρ B).set 25 (zA 0 80 (zup (ρ 13) i v)) = zM κ a (z_up ρ 13 i v) B := rfl
theorem st_second {i v : Int} : (zM κ a ρ B).set 26 (zA 0 80 (zup (ρ 14) i v)) = zM κ a (z_up ρ 14 i v) B := rfl
theorem st_amountOf {i v : Int} : (zM κ a ρ B).set 27 (zA 0 80 (zup (ρ 15) i v)) = zM κ a (z_up ρ 15 i v) B := rfl
theorem st_boundTo {i v : Int} : (zM κ a ρ B).set 28 (zA 0 80 (zup (ρ 16) i v)) = zM κ a (z_up ρ 16 i v) B := rfl
theorem st_usedBy {i v : Int} : (zM κ a ρ B).set 29 (zA 0 80 (zup (ρ 17) i v)) = zM κ a (z_up ρ 17 i v) B := rfl
theorem st_knows {i v : Int} : (zM κ a ρ B).set 30 (zA 0 80 (zup (ρ 18) i v)) = zM κ a (z_up ρ 18 i v) B := rfl
theorem st_decided {i v : Int} : (zM κ a ρ B).set 31 (zA 0 80 (zup (ρ 19) i v)) = zM κ a (z_up ρ 19 i v) B := rfl
theorem st_fetches {i v : Int} : (zM κ a ρ B).set 32 (zA 0 4 (zup (ρ 20) i v)) = zM κ a (z_up ρ 20 i v) B := rfl
theorem st_declines {i v : Int} : (zM κ a ρ B).set 33 (zA 1 16 (zup (ρ 21) i v)) = zM κ a (z_up ρ 21 i v) B := rfl
theorem st_waiting {i v : Int} : (zM κ a ρ B).set 34 (zA 0 220 (zup (ρ 22) i v)) = zM κ a (z_up ρ 22 i v) B := rfl
theorem st_before {i v : Int} : (zM κ a ρ B).set 35 (zA 1 20 (zup (ρ 25) i v)) = zM κ a (z_up ρ 25 i v) B := rfl
theorem st_mix {i v : Int} : (zM κ a ρ B).set 36 (zA 0 16 (zup (ρ 26) i v)) = zM κ a (z_up ρ 26 i v) B := rfl
theorem st_many {v : Int} : (zM κ a ρ B).set 12 (.inr (6, [zi v, .ref 13, .ref 14, .ref 15, .ref 16, .ref 17, .ref 18, .ref 19, .ref 20, .ref 21, .ref 22, .ref 23, .ref 24, .ref 25, .ref 26, .ref 27, .ref 28, .ref 29, .ref 30, .ref 31, .ref 32, .ref 33, .ref 34, zi (ρ 23 0), zi (ρ 24 0), .ref 35, .ref 36])) = zM κ a (z_up ρ 0 0 v) B := rfl
theorem st_waits {v : Int} : (zM κ a ρ B).set 12 (.inr (6, [zi (ρ 0 0), .ref 13, .ref 14, .ref 15, .ref 16, .ref 17, .ref 18, .ref 19, .ref 20, .ref 21, .ref 22, .ref 23, .ref 24, .ref 25, .ref 26, .ref 27, .ref 28, .ref 29, .ref 30, .ref 31, .ref 32, .ref 33, .ref 34, zi v, zi (ρ 24 0), .ref 35, .ref 36])) = zM κ a (z_up ρ 23 0 v) B := rfl
theorem st_clock {v : Int} : (zM κ a ρ B).set 12 (.inr (6, [zi (ρ 0 0), .ref 13, .ref 14, .ref 15, .ref 16, .ref 17, .ref 18, .ref 19, .ref 20, .ref 21, .ref 22, .ref 23, .ref 24, .ref 25, .ref 26, .ref 27, .ref 28, .ref 29, .ref 30, .ref 31, .ref 32, .ref 33, .ref 34, zi (ρ 23 0), zi v, .ref 35, .ref 36])) = zM κ a (z_up ρ 24 0 v) B := rfl
end
def z_lo (c : Nat) : Int := match c with
  | 0 => 0
  | 1 => 0
  | 2 => 0
  | 3 => 0
  | 4 => 0
  | 5 => 0
  | 6 => 0
  | 7 => 0
  | 8 => 0
  | 9 => 0
  | 10 => 0
  | 11 => 0
  | 12 => 0
  | 13 => 0
  | 14 => 0
  | 15 => 0
  | 16 => -1
  | 17 => -1
  | 18 => 0
  | 19 => 0
  | 20 => -2147483648
  | 21 => 0
  | 22 => 0
  | 23 => 0
  | 24 => 0
  | 25 => 0
  | 26 => -2147483648
  | _ => -2147483648
def z_hi (c : Nat) : Int := match c with
  | 0 => 20
  | 1 => 3
  | 2 => 5
  | 3 => 1000000
  | 4 => 1000000
  | 5 => 9
  | 6 => 1
  | 7 => 15
  | 8 => 4
  | 9 => 4
  | 10 => 4
  | 11 => 79
  | 12 => 2
  | 13 => 3
  | 14 => 3
  | 15 => 1000
  | 16 => 3
  | 17 => 19
  | 18 => 2
  | 19 => 2
  | 20 => 2147483647
  | 21 => 1
  | 22 => 131071
  | 23 => 220
  | 24 => 1000000
  | 25 => 1
  | 26 => 2147483647
  | _ => 2147483647
/-- every number of the reference lies where it must; the counts of fetches apart -/
def z_wf (ρ : z_Sg) : Prop := ∀ (c : Nat) (i : Int), c ≠ 20 → z_lo c ≤ ρ c i ∧ ρ c i ≤ z_hi c
theorem z_wf_up {ρ : z_Sg} (h : z_wf ρ) {c : Nat} {i v : Int} (h1 : z_lo c ≤ v) (h2 : v ≤ z_hi c) : z_wf (z_up ρ c i v) := by
  intro c' j hc
  by_cases e : c' = c
  · subst e
    rw [z_up_s]
    unfold zup
    split
    · exact ⟨h1, h2⟩
    · exact h c' j hc
  · rw [z_up_n e]
    exact h c' j hc
theorem z_wf_up20 {ρ : z_Sg} (h : z_wf ρ) {i v : Int} : z_wf (z_up ρ 20 i v) := by
  intro c' j hc
  rw [z_up_n hc]
  exact h c' j hc
end
section
-- rules that were wanting
section
variable {Y : z_MD} {d : Nat × Nat} {kc ks pc : Nat} {L S : List Value} {M : List va_E} {Q : Option Value → List va_E → Prop}
theorem ev_dup2 {q : Nat} {v w : Value} (hd : decode Y.2.1 pc = .ok (.dup2, 1)) (hv : z_real v = true) (hw : z_real w = true) (hq : pc + 1 = q) (k : z_Ev Y d kc ks q L (v :: w :: v :: w :: S) M Q) : z_Ev Y d kc ks pc L (v :: w :: S) M Q := by
  subst hq
  intro p l e R s m args below meth c b sc D cA H locs cells slots ls Qm h hr
  exact lv_dup2_11 h.1.1 h.1.2.1 hd (z_real_cat hv) (z_real_cat hw) (k p l e R s m args below meth c b sc D cA H locs cells slots ls Qm h hr)
theorem ev_null {q : Nat} (hd : decode Y.2.1 pc = .ok (.aconst_null, 1)) (hq : pc + 1 = q) (k : z_Ev Y d kc ks q L (.null :: S) M Q) : z_Ev Y d kc ks pc L S M Q := by
  subst hq
  intro p l e R s m args below meth c b sc D cA H locs cells slots ls Qm h hr
  exact lv_null h.1.1 h.1.2.1 hd (k p l e R s m args below meth c b sc D cA H locs cells slots ls Qm h hr)
theorem ev_ldc_w {q idx : Nat} {v : Int32} (hd : decode Y.2.1 pc = .ok (.ldc_w idx, 3)) (hw : Cond.constant Y.1.cls idx v ∈ z_ws) (hq : pc + 3 = q) (k : z_Ev Y d kc ks q L (.int v :: S) M Q) : z_Ev Y d kc ks pc L S M Q := by
  subst hq
  intro p l e R s m args below meth c b sc D cA H locs cells slots ls Qm h hr
  exact lv_ldcw h.1.1 h.1.2.1 h.1.2.2.2.1 (h.1.2.2.2.2.1 _ hw) hd (k p l e R s m args below meth c b sc D cA H locs cells slots ls Qm h hr)
theorem ev_alen {q k n : Nat} {g : Int → Int} (hd : decode Y.2.1 pc = .ok (.arraylength, 1)) (hM : M[k]? = some (zA 0 n g)) (hq : pc + 1 = q) (kk : z_Ev Y d kc ks q L (zi (n : Int) :: S) M Q) : z_Ev Y d kc ks pc L (.ref k :: S) M Q := by
  subst hq
  intro p l e R s m args below meth c b sc D cA H locs cells slots ls Qm h hr
  obtain ⟨⟨hx, hb, hml, hown, hts, hK, -⟩, -, hP, -⟩ := id h
  exact va_alen hx hb hK hP k 0 (z_tw_at hM) (ty := .int) rfl (v := iI (n : Int)) (iI_nI n) hd (kk p l e R s m args below meth c b sc D cA H locs cells slots ls Qm h hr)
end
theorem iI_shr {a : Int} (k : Nat) (ha : 0 ≤ a ∧ a < 2147483648) (hk : k < 31) : iI a >>> (iI (k : Int) &&& 31) = iI (a / 2 ^ k) := by
  obtain ⟨n, rfl⟩ : ∃ n : Nat, a = (n : Int) := ⟨a.toNat, by omega⟩
  have h : ((iI (k : Int) &&& 31).toBitVec.smod 32).toNat = k := by
    have key : ∀ k : Fin 31, ((iI ((k : Nat) : Int) &&& 31).toBitVec.smod 32).toNat = k := by decide +kernel
    exact key ⟨k, hk⟩
  have := pk_shrN (n := n) (by omega) (iI (k : Int) &&& 31) k h
  rw [iI_nI, iI_nI] at this
  rw [this]
  congr 1
theorem iI_shl {a : Int} (k : Nat) (ha : 0 ≤ a) (hk : k < 31) (hb : a * 2 ^ k < 2147483648) : iI a <<< (iI (k : Int) &&& 31) = iI (a * 2 ^ k) := by
  obtain ⟨n, rfl⟩ : ∃ n : Nat, a = (n : Int) := ⟨a.toNat, by omega⟩
  have h : ((iI (k : Int) &&& 31).toBitVec.smod 32).toNat = k := by
    have key : ∀ k : Fin 31, ((iI ((k : Nat) : Int) &&& 31).toBitVec.smod 32).toNat = k := by decide +kernel
    exact key ⟨k, hk⟩
  have hb2 : n * 2 ^ k < 2 ^ 32 := by
    have h2 : ((n * 2 ^ k : Nat) : Int) = (n : Int) * 2 ^ k := by simp
    omega
  have := pk_shlN (n := n) (iI (k : Int) &&& 31) k h hb2
  rw [iI_nI, iI_nI] at this
  rw [this]
  congr 1
theorem iI_mask {a : Int} (k : Nat) {m : Int} (ha : 0 ≤ a ∧ a < 2147483648) (hm : (iI m).toBitVec.toNat = 2 ^ k - 1) : iI a &&& iI m = iI (a % 2 ^ k) := by
  obtain ⟨n, rfl⟩ : ∃ n : Nat, a = (n : Int) := ⟨a.toNat, by omega⟩
  have := pk_andN (n := n) (by omega) (m := iI m) k hm
  rw [iI_nI, iI_nI] at this
  rw [this]
  congr 1
end
section
def rR_isTx (ρ : z_Sg) (t : Int) : Int := if t < 0 then 0 else if (ρ 0 0) ≤ t then 0 else 1
theorem bR_isTx (ρ : z_Sg) (t : Int) : rR_isTx ρ t = 0 ∨ rR_isTx ρ t = 1 := by
  unfold rR_isTx
  repeat' split
  all_goals first | exact Or.inl rfl | exact Or.inr rfl
set_option maxRecDepth 100000 in
set_option maxHeartbeats 4000000 in
theorem sR_isTx {κ ρ : z_Sg} {a : Int → Nat} {B : List va_E} (hw : z_wf ρ) (t : Int) (hp0 : z_rg t) : z_Sp mR_isTx (0, 0) 0 0 [.ref 12, zi t] (zM κ a ρ B) (fun r M' => r = some (zi (rR_isTx ρ t)) ∧ M' = zM κ a ρ B) := by
  refine z_Sp_of (L := [.ref 12, zi t]) (by decide) rfl rfl rfl (Nat.le_of_ble_eq_true rfl) ?_
  refine ev_iload_n 1 (q := 1) dR_isTx_0 rfl (by rfl) rfl ?_
  refine zr_if_lt (t := 16) (q := 4) dR_isTx_1 rfl rfl ⟨by omega, by omega⟩ (fun h1 => ?_) (fun h1 => ?_)
  · refine ev_iconst (v := iI 0) (q := 17) dR_isTx_16 rfl rfl ?_
    exact zr_zret dR_isTx_17 rfl (by omega) ⟨by rw [rR_isTx, if_pos h1], rfl⟩
  · refine ev_iload_n 1 (q := 5) dR_isTx_4 rfl (by rfl) rfl ?_
    refine ev_aload_n 0 (q := 6) dR_isTx_5 rfl (by rfl) rfl ?_
    refine ev_get (q := 9) (v := zi (ρ 0 0)) dR_isTx_6 fR_83 atR rfl rfl ?_
    have g2 : 0 ≤ ρ 0 0 ∧ ρ 0 0 ≤ 20 := hw 0 0 (by decide)
    refine zr_icmp_ge (t := 16) (q := 12) dR_isTx_9 rfl rfl ⟨by omega, by omega⟩ ⟨by omega, by omega⟩ (fun h3 => ?_) (fun h3 => ?_)
    · refine ev_iconst (v := iI 0) (q := 17) dR_isTx_16 rfl rfl ?_
      exact zr_zret dR_isTx_17 rfl (by omega) ⟨by rw [rR_isTx, if_neg (Int.not_lt.mpr h1), if_pos h3], rfl⟩
    · refine ev_iconst (v := iI 1) (q := 13) dR_isTx_12 rfl rfl ?_
      refine ev_goto (t := 17) (q := 17) dR_isTx_13 rfl rfl ?_
      exact zr_zret dR_isTx_17 rfl (by omega) ⟨by rw [rR_isTx, if_neg (Int.not_lt.mpr h1), if_neg (Int.not_le.mpr h3)], rfl⟩

theorem tR_isTx {ρ : z_Sg} (hw : z_wf ρ) {t : Int} (h : rR_isTx ρ t ≠ 0) : 0 ≤ t ∧ t < ρ 0 0 ∧ t ≤ 19 := by
  have g : 0 ≤ ρ 0 0 ∧ ρ 0 0 ≤ 20 := hw 0 0 (by decide)
  unfold rR_isTx at h
  split at h
  · exact absurd rfl h
  · split at h
    · exact absurd rfl h
    · exact ⟨by omega, by omega, by omega⟩

def rR_isNode (ρ : z_Sg) (n : Int) : Int := if n < 0 then 0 else if 3 < n then 0 else 1
theorem bR_isNode (ρ : z_Sg) (n : Int) : rR_isNode ρ n = 0 ∨ rR_isNode ρ n = 1 := by
  unfold rR_isNode
  repeat' split
  all_goals first | exact Or.inl rfl | exact Or.inr rfl
set_option maxRecDepth 100000 in
set_option maxHeartbeats 4000000 in
theorem sR_isNode {κ ρ : z_Sg} {a : Int → Nat} {B : List va_E} (hw : z_wf ρ) (n : Int) (hp0 : z_rg n) : z_Sp mR_isNode (0, 0) 0 0 [.ref 12, zi n] (zM κ a ρ B) (fun r M' => r = some (zi (rR_isNode ρ n)) ∧ M' = zM κ a ρ B) := by
  refine z_Sp_of (L := [.ref 12, zi n]) (by decide) rfl rfl rfl (Nat.le_of_ble_eq_true rfl) ?_
  refine ev_iload_n 1 (q := 1) dR_isNode_0 rfl (by rfl) rfl ?_
  refine zr_if_lt (t := 13) (q := 4) dR_isNode_1 rfl rfl ⟨by omega, by omega⟩ (fun h1 => ?_) (fun h1 => ?_)
  · refine ev_iconst (v := iI 0) (q := 14) dR_isNode_13 rfl rfl ?_
    exact zr_zret dR_isNode_14 rfl (by omega) ⟨by rw [rR_isNode, if_pos h1], rfl⟩
  · refine ev_iload_n 1 (q := 5) dR_isNode_4 rfl (by rfl) rfl ?_
    refine ev_iconst (v := iI 3) (q := 6) dR_isNode_5 rfl rfl ?_
    refine zr_icmp_gt (t := 13) (q := 9) dR_isNode_6 rfl rfl ⟨by omega, by omega⟩ ⟨by omega, by omega⟩ (fun h2 => ?_) (fun h2 => ?_)
    · refine ev_iconst (v := iI 0) (q := 14) dR_isNode_13 rfl rfl ?_
      exact zr_zret dR_isNode_14 rfl (by omega) ⟨by rw [rR_isNode, if_neg (Int.not_lt.mpr h1), if_pos h2], rfl⟩
    · refine ev_iconst (v := iI 1) (q := 10) dR_isNode_9 rfl rfl ?_
      refine ev_goto (t := 14) (q := 14) dR_isNode_10 rfl rfl ?_
      exact zr_zret dR_isNode_14 rfl (by omega) ⟨by rw [rR_isNode, if_neg (Int.not_lt.mpr h1), if_neg (Int.not_lt.mpr h2)], rfl⟩

theorem tR_isNode {ρ : z_Sg} (hw : z_wf ρ) {n : Int} (h : rR_isNode ρ n ≠ 0) : 0 ≤ n ∧ n ≤ 3 := by
  unfold rR_isNode at h
  split at h
  · exact absurd rfl h
  · split at h
    · exact absurd rfl h
    · exact ⟨by omega, by omega⟩

def rR_isState (ρ : z_Sg) (u o : Int) : Int := if (rR_isTx ρ u) = 0 then 0 else if o < 0 then 0 else if (ρ 10 u) ≤ o then 0 else 1
theorem bR_isState (ρ : z_Sg) (u o : Int) : rR_isState ρ u o = 0 ∨ rR_isState ρ u o = 1 := by
  unfold rR_isState
  repeat' split
  all_goals first | exact Or.inl rfl | exact Or.inr rfl
set_option maxRecDepth 100000 in
set_option maxHeartbeats 4000000 in
theorem sR_isState {κ ρ : z_Sg} {a : Int → Nat} {B : List va_E} (hw : z_wf ρ) (u o : Int) (hp0 : z_rg u) (hp1 : z_rg o) : z_Sp mR_isState (1, 21) 0 0 [.ref 12, zi u, zi o] (zM κ a ρ B) (fun r M' => r = some (zi (rR_isState ρ u o)) ∧ M' = zM κ a ρ B) := by
  refine z_Sp_of (L := [.ref 12, zi u, zi o]) (by decide) rfl rfl rfl (Nat.le_of_ble_eq_true rfl) ?_
  refine ev_aload_n 0 (q := 1) dR_isState_0 rfl (by rfl) rfl ?_
  refine ev_iload_n 1 (q := 2) dR_isState_1 rfl (by rfl) rfl ?_
  refine cv_V (As := [_]) (q := 5) dR_isState_2 kR_87 atR rfl rfl (by decide) rfl rfl rfl (by decide) (sR_isTx hw u ⟨by omega, by omega⟩ ) ?_
  have g1 : (rR_isTx ρ u) = 0 ∨ (rR_isTx ρ u) = 1 := bR_isTx _ _
  refine zr_if_eq (t := 26) (q := 8) dR_isState_5 rfl rfl ⟨by omega, by omega⟩ (fun h2 => ?_) (fun h2 => ?_)
  · refine ev_iconst (v := iI 0) (q := 27) dR_isState_26 rfl rfl ?_
    exact zr_zret dR_isState_27 rfl (by omega) ⟨by rw [rR_isState, if_pos h2], rfl⟩
  · have f6 := tR_isTx hw h2
    refine ev_iload_n 2 (q := 9) dR_isState_8 rfl (by rfl) rfl ?_
    refine zr_if_lt (t := 26) (q := 12) dR_isState_9 rfl rfl ⟨by omega, by omega⟩ (fun h3 => ?_) (fun h3 => ?_)
    · refine ev_iconst (v := iI 0) (q := 27) dR_isState_26 rfl rfl ?_
      exact zr_zret dR_isState_27 rfl (by omega) ⟨by rw [rR_isState, if_neg h2, if_pos h3], rfl⟩
    · refine ev_iload_n 2 (q := 13) dR_isState_12 rfl (by rfl) rfl ?_
      refine ev_aload_n 0 (q := 14) dR_isState_13 rfl (by rfl) rfl ?_
      refine ev_get (q := 17) dR_isState_14 fR_38 atR (by rfl) rfl ?_
      refine ev_iload_n 1 (q := 18) dR_isState_17 rfl (by rfl) rfl ?_
      refine zr_iald (q := 19) (g := ρ 10) dR_isState_18 at_outputs (by decide) ⟨by omega, by omega⟩ rfl ?_
      have g4 : 0 ≤ ρ 10 u ∧ ρ 10 u ≤ 4 := hw 10 u (by decide)
      refine zr_icmp_ge (t := 26) (q := 22) dR_isState_19 rfl rfl ⟨by omega, by omega⟩ ⟨by omega, by omega⟩ (fun h5 => ?_) (fun h5 => ?_)
      · refine ev_iconst (v := iI 0) (q := 27) dR_isState_26 rfl rfl ?_
        exact zr_zret dR_isState_27 rfl (by omega) ⟨by rw [rR_isState, if_neg h2, if_neg (Int.not_lt.mpr h3), if_pos h5], rfl⟩
      · refine ev_iconst (v := iI 1) (q := 23) dR_isState_22 rfl rfl ?_
        refine ev_goto (t := 27) (q := 27) dR_isState_23 rfl rfl ?_
        exact zr_zret dR_isState_27 rfl (by omega) ⟨by rw [rR_isState, if_neg h2, if_neg (Int.not_lt.mpr h3), if_neg (Int.not_le.mpr h5)], rfl⟩

theorem tR_isState {ρ : z_Sg} (hw : z_wf ρ) {u o : Int} (h : rR_isState ρ u o ≠ 0) : 0 ≤ u ∧ u < ρ 0 0 ∧ u ≤ 19 ∧ 0 ≤ o ∧ o < ρ 10 u ∧ o ≤ 3 := by
  have g : 0 ≤ ρ 10 u ∧ ρ 10 u ≤ 4 := hw 10 u (by decide)
  unfold rR_isState at h
  split at h
  · exact absurd rfl h
  · rename_i h1
    have h2 := tR_isTx hw h1
    split at h
    · exact absurd rfl h
    · split at h
      · exact absurd rfl h
      · exact ⟨by omega, by omega, by omega, by omega, by omega, by omega⟩

def rR_begin (ρ : z_Sg) (node notary fr un : Int) : Int × z_Sg := if (rR_isNode ρ node) = 0 then ((-1), ρ) else if notary = 4 then if fr < 0 then ((-1), ρ) else if un ≤ fr then ((-1), ρ) else if un ≤ 1000000 then if (ρ 0 0) ≠ 20 then ((((ρ 0 0) + 1) - 1), (z_up (z_up (z_up (z_up (z_up ρ 1 (ρ 0 0) node) 2 (ρ 0 0) notary) 3 (ρ 0 0) fr) 4 (ρ 0 0) un) 0 0 ((ρ 0 0) + 1))) else ((-6), ρ) else ((-1), ρ) else if notary ≠ 5 then ((-1), ρ) else if fr < 0 then ((-1), ρ) else if un ≤ fr then ((-1), ρ) else if un ≤ 1000000 then if (ρ 0 0) ≠ 20 then ((((ρ 0 0) + 1) - 1), (z_up (z_up (z_up (z_up (z_up ρ 1 (ρ 0 0) node) 2 (ρ 0 0) notary) 3 (ρ 0 0) fr) 4 (ρ 0 0) un) 0 0 ((ρ 0 0) + 1))) else ((-6), ρ) else ((-1), ρ)
set_option maxRecDepth 100000 in
set_option maxHeartbeats 4000000 in
theorem sR_begin {κ ρ : z_Sg} {a : Int → Nat} {B : List va_E} (hw : z_wf ρ) (node notary fr un : Int) (hp0 : z_rg node) (hp1 : z_rg notary) (hp2 : z_rg fr) (hp3 : z_rg un) : z_Sp mR_begin (1, 21) 0 0 [.ref 12, zi node, zi notary, zi fr, zi un] (zM κ a ρ B) (fun r M' => r = some (zi (rR_begin ρ node notary fr un).1) ∧ M' = zM κ a (rR_begin ρ node notary fr un).2 B) := by
  refine z_Sp_of (L := [.ref 12, zi node, zi notary, zi fr, zi un]) (by decide) rfl rfl rfl (Nat.le_of_ble_eq_true rfl) ?_
  refine ev_aload_n 0 (q := 1) dR_begin_0 rfl (by rfl) rfl ?_
  refine ev_iload_n 1 (q := 2) dR_begin_1 rfl (by rfl) rfl ?_
  refine cv_V (As := [_]) (q := 5) dR_begin_2 kR_91 atR rfl rfl (by decide) rfl rfl rfl (by decide) (sR_isNode hw node ⟨by omega, by omega⟩ ) ?_
  have g1 : (rR_isNode ρ node) = 0 ∨ (rR_isNode ρ node) = 1 := bR_isNode _ _
  refine zr_if_eq (t := 35) (q := 8) dR_begin_5 rfl rfl ⟨by omega, by omega⟩ (fun h2 => ?_) (fun h2 => ?_)
  · refine ev_iconst (v := iI (-1)) (q := 36) dR_begin_35 rfl rfl ?_
    exact zr_iret dR_begin_36 rfl ⟨by rw [rR_begin, if_pos h2], by rw [rR_begin, if_pos h2]⟩
  · have f35 := tR_isNode hw h2
    refine ev_iload_n 2 (q := 9) dR_begin_8 rfl (by rfl) rfl ?_
    refine ev_iconst (v := iI 4) (q := 10) dR_begin_9 rfl rfl ?_
    refine zr_icmp_eq (t := 18) (q := 13) dR_begin_10 rfl rfl ⟨by omega, by omega⟩ ⟨by omega, by omega⟩ (fun h3 => ?_) (fun h3 => ?_)
    · refine ev_iload_n 3 (q := 19) dR_begin_18 rfl (by rfl) rfl ?_
      refine zr_if_lt (t := 35) (q := 22) dR_begin_19 rfl rfl ⟨by omega, by omega⟩ (fun h4 => ?_) (fun h4 => ?_)
      · refine ev_iconst (v := iI (-1)) (q := 36) dR_begin_35 rfl rfl ?_
        exact zr_iret dR_begin_36 rfl ⟨by rw [rR_begin, if_neg h2, if_pos h3, if_pos h4], by rw [rR_begin, if_neg h2, if_pos h3, if_pos h4]⟩
      · refine ev_iload (q := 24) dR_begin_22 (by rfl) rfl ?_
        refine ev_iload_n 3 (q := 25) dR_begin_24 rfl (by rfl) rfl ?_
        refine zr_icmp_le (t := 35) (q := 28) dR_begin_25 rfl rfl ⟨by omega, by omega⟩ ⟨by omega, by omega⟩ (fun h5 => ?_) (fun h5 => ?_)
        · refine ev_iconst (v := iI (-1)) (q := 36) dR_begin_35 rfl rfl ?_
          exact zr_iret dR_begin_36 rfl ⟨by rw [rR_begin, if_neg h2, if_pos h3, if_neg (Int.not_lt.mpr h4), if_pos h5], by rw [rR_begin, if_neg h2, if_pos h3, if_neg (Int.not_lt.mpr h4), if_pos h5]⟩
        · refine ev_iload (q := 30) dR_begin_28 (by rfl) rfl ?_
          refine ev_ldc (v := iI 1000000) (q := 32) dR_begin_30 wkR_94 rfl ?_
          refine zr_icmp_le (t := 37) (q := 35) dR_begin_32 rfl rfl ⟨by omega, by omega⟩ ⟨by omega, by omega⟩ (fun h6 => ?_) (fun h6 => ?_)
          · refine ev_aload_n 0 (q := 38) dR_begin_37 rfl (by rfl) rfl ?_
            refine ev_get (q := 41) (v := zi (ρ 0 0)) dR_begin_38 fR_83 atR rfl rfl ?_
            have g7 : 0 ≤ ρ 0 0 ∧ ρ 0 0 ≤ 20 := hw 0 0 (by decide)
            refine ev_bipush (v := iI 20) (q := 43) dR_begin_41 (by decide) rfl ?_
            refine zr_icmp_ne (t := 49) (q := 46) dR_begin_43 rfl rfl ⟨by omega, by omega⟩ ⟨by omega, by omega⟩ (fun h8 => ?_) (fun h8 => ?_)
            · refine ev_aload_n 0 (q := 50) dR_begin_49 rfl (by rfl) rfl ?_
              refine ev_get (q := 53) dR_begin_50 fR_7 atR (by rfl) rfl ?_
              refine ev_aload_n 0 (q := 54) dR_begin_53 rfl (by rfl) rfl ?_
              refine ev_get (q := 57) (v := zi (ρ 0 0)) dR_begin_54 fR_83 atR rfl rfl ?_
              have g9 : 0 ≤ ρ 0 0 ∧ ρ 0 0 ≤ 20 := hw 0 0 (by decide)
              refine ev_iload_n 1 (q := 58) dR_begin_57 rfl (by rfl) rfl ?_
              refine zr_iast (q := 59) dR_begin_58 at_begunBy (by decide) ⟨by omega, by omega⟩ st_begunBy rfl ?_
              have hw10 : z_wf (z_up ρ 1 (ρ 0 0) node) := z_wf_up hw (show (0 : Int) ≤ node by omega) (show node ≤ (3 : Int) by omega)
              refine ev_aload_n 0 (q := 60) dR_begin_59 rfl (by rfl) rfl ?_
              refine ev_get (q := 63) dR_begin_60 fR_13 atR (by rfl) rfl ?_
              refine ev_aload_n 0 (q := 64) dR_begin_63 rfl (by rfl) rfl ?_
              refine ev_get (q := 67) (v := zi (ρ 0 0)) dR_begin_64 fR_83 atR rfl rfl ?_
              have g11 : 0 ≤ ρ 0 0 ∧ ρ 0 0 ≤ 20 := hw 0 0 (by decide)
              refine ev_iload_n 2 (q := 68) dR_begin_67 rfl (by rfl) rfl ?_
              refine zr_iast (q := 69) dR_begin_68 at_notaryOf (by decide) ⟨by omega, by omega⟩ st_notaryOf rfl ?_
              have hw12 : z_wf (z_up (z_up ρ 1 (ρ 0 0) node) 2 (ρ 0 0) notary) := z_wf_up hw10 (show (0 : Int) ≤ notary by omega) (show notary ≤ (5 : Int) by omega)
              refine ev_aload_n 0 (q := 70) dR_begin_69 rfl (by rfl) rfl ?_
              refine ev_get (q := 73) dR_begin_70 fR_16 atR (by rfl) rfl ?_
              refine ev_aload_n 0 (q := 74) dR_begin_73 rfl (by rfl) rfl ?_
              refine ev_get (q := 77) (v := zi (ρ 0 0)) dR_begin_74 fR_83 atR rfl rfl ?_
              have g13 : 0 ≤ ρ 0 0 ∧ ρ 0 0 ≤ 20 := hw 0 0 (by decide)
              refine ev_iload_n 3 (q := 78) dR_begin_77 rfl (by rfl) rfl ?_
              refine zr_iast (q := 79) dR_begin_78 at_fromTime (by decide) ⟨by omega, by omega⟩ st_fromTime rfl ?_
              have hw14 : z_wf (z_up (z_up (z_up ρ 1 (ρ 0 0) node) 2 (ρ 0 0) notary) 3 (ρ 0 0) fr) := z_wf_up hw12 (show (0 : Int) ≤ fr by omega) (show fr ≤ (1000000 : Int) by omega)
              refine ev_aload_n 0 (q := 80) dR_begin_79 rfl (by rfl) rfl ?_
              refine ev_get (q := 83) dR_begin_80 fR_19 atR (by rfl) rfl ?_
              refine ev_aload_n 0 (q := 84) dR_begin_83 rfl (by rfl) rfl ?_
              refine ev_get (q := 87) (v := zi (ρ 0 0)) dR_begin_84 fR_83 atR rfl rfl ?_
              have g15 : 0 ≤ ρ 0 0 ∧ ρ 0 0 ≤ 20 := hw 0 0 (by decide)
              refine ev_iload (q := 89) dR_begin_87 (by rfl) rfl ?_
              refine zr_iast (q := 90) dR_begin_89 at_untilTime (by decide) ⟨by omega, by omega⟩ st_untilTime rfl ?_
              have hw16 : z_wf (z_up (z_up (z_up (z_up ρ 1 (ρ 0 0) node) 2 (ρ 0 0) notary) 3 (ρ 0 0) fr) 4 (ρ 0 0) un) := z_wf_up hw14 (show (0 : Int) ≤ un by omega) (show un ≤ (1000000 : Int) by omega)
              refine ev_aload_n 0 (q := 91) dR_begin_90 rfl (by rfl) rfl ?_
              refine ev_dup (q := 92) dR_begin_91 rfl rfl ?_
              refine ev_get (q := 95) (v := zi (ρ 0 0)) dR_begin_92 fR_83 atR rfl rfl ?_
              have g17 : 0 ≤ ρ 0 0 ∧ ρ 0 0 ≤ 20 := hw 0 0 (by decide)
              refine ev_iconst (v := iI 1) (q := 96) dR_begin_95 rfl rfl ?_
              refine zr_iadd (q := 97) dR_begin_96 rfl ?_
              refine zr_puti (q := 100) dR_begin_97 gR_83 atR (Nat.le_of_ble_eq_true rfl) rfl st_many rfl ?_
              have hw18 : z_wf (z_up (z_up (z_up (z_up (z_up ρ 1 (ρ 0 0) node) 2 (ρ 0 0) notary) 3 (ρ 0 0) fr) 4 (ρ 0 0) un) 0 0 ((ρ 0 0) + 1)) := z_wf_up hw16 (show (0 : Int) ≤ ((ρ 0 0) + 1) by omega) (show ((ρ 0 0) + 1) ≤ (20 : Int) by omega)
              refine ev_aload_n 0 (q := 101) dR_begin_100 rfl (by rfl) rfl ?_
              refine ev_get (q := 104) (v := zi ((ρ 0 0) + 1)) dR_begin_101 fR_83 atR rfl rfl ?_
              refine ev_iconst (v := iI 1) (q := 105) dR_begin_104 rfl rfl ?_
              refine zr_isub (q := 106) dR_begin_105 rfl ?_
              exact zr_iret dR_begin_106 rfl ⟨by rw [rR_begin, if_neg h2, if_pos h3, if_neg (Int.not_lt.mpr h4), if_neg (Int.not_le.mpr h5), if_pos h6, if_pos h8], by rw [rR_begin, if_neg h2, if_pos h3, if_neg (Int.not_lt.mpr h4), if_neg (Int.not_le.mpr h5), if_pos h6, if_pos h8]⟩
            · refine ev_bipush (v := iI (-6)) (q := 48) dR_begin_46 (by decide) rfl ?_
              exact zr_iret dR_begin_48 rfl ⟨by rw [rR_begin, if_neg h2, if_pos h3, if_neg (Int.not_lt.mpr h4), if_neg (Int.not_le.mpr h5), if_pos h6, if_neg (fun z => z h8)], by rw [rR_begin, if_neg h2, if_pos h3, if_neg (Int.not_lt.mpr h4), if_neg (Int.not_le.mpr h5), if_pos h6, if_neg (fun z => z h8)]⟩
          · refine ev_iconst (v := iI (-1)) (q := 36) dR_begin_35 rfl rfl ?_
            exact zr_iret dR_begin_36 rfl ⟨by rw [rR_begin, if_neg h2, if_pos h3, if_neg (Int.not_lt.mpr h4), if_neg (Int.not_le.mpr h5), if_neg (Int.not_le.mpr h6)], by rw [rR_begin, if_neg h2, if_pos h3, if_neg (Int.not_lt.mpr h4), if_neg (Int.not_le.mpr h5), if_neg (Int.not_le.mpr h6)]⟩
    · refine ev_iload_n 2 (q := 14) dR_begin_13 rfl (by rfl) rfl ?_
      refine ev_iconst (v := iI 5) (q := 15) dR_begin_14 rfl rfl ?_
      refine zr_icmp_ne (t := 35) (q := 18) dR_begin_15 rfl rfl ⟨by omega, by omega⟩ ⟨by omega, by omega⟩ (fun h19 => ?_) (fun h19 => ?_)
      · refine ev_iconst (v := iI (-1)) (q := 36) dR_begin_35 rfl rfl ?_
        exact zr_iret dR_begin_36 rfl ⟨by rw [rR_begin, if_neg h2, if_neg h3, if_pos h19], by rw [rR_begin, if_neg h2, if_neg h3, if_pos h19]⟩
      · refine ev_iload_n 3 (q := 19) dR_begin_18 rfl (by rfl) rfl ?_
        refine zr_if_lt (t := 35) (q := 22) dR_begin_19 rfl rfl ⟨by omega, by omega⟩ (fun h20 => ?_) (fun h20 => ?_)
        · refine ev_iconst (v := iI (-1)) (q := 36) dR_begin_35 rfl rfl ?_
          exact zr_iret dR_begin_36 rfl ⟨by rw [rR_begin, if_neg h2, if_neg h3, if_neg (fun z => z h19), if_pos h20], by rw [rR_begin, if_neg h2, if_neg h3, if_neg (fun z => z h19), if_pos h20]⟩
        · refine ev_iload (q := 24) dR_begin_22 (by rfl) rfl ?_
          refine ev_iload_n 3 (q := 25) dR_begin_24 rfl (by rfl) rfl ?_
          refine zr_icmp_le (t := 35) (q := 28) dR_begin_25 rfl rfl ⟨by omega, by omega⟩ ⟨by omega, by omega⟩ (fun h21 => ?_) (fun h21 => ?_)
          · refine ev_iconst (v := iI (-1)) (q := 36) dR_begin_35 rfl rfl ?_
            exact zr_iret dR_begin_36 rfl ⟨by rw [rR_begin, if_neg h2, if_neg h3, if_neg (fun z => z h19), if_neg (Int.not_lt.mpr h20), if_pos h21], by rw [rR_begin, if_neg h2, if_neg h3, if_neg (fun z => z h19), if_neg (Int.not_lt.mpr h20), if_pos h21]⟩
          · refine ev_iload (q := 30) dR_begin_28 (by rfl) rfl ?_
            refine ev_ldc (v := iI 1000000) (q := 32) dR_begin_30 wkR_94 rfl ?_
            refine zr_icmp_le (t := 37) (q := 35) dR_begin_32 rfl rfl ⟨by omega, by omega⟩ ⟨by omega, by omega⟩ (fun h22 => ?_) (fun h22 => ?_)
            · refine ev_aload_n 0 (q := 38) dR_begin_37 rfl (by rfl) rfl ?_
              refine ev_get (q := 41) (v := zi (ρ 0 0)) dR_begin_38 fR_83 atR rfl rfl ?_
              have g23 : 0 ≤ ρ 0 0 ∧ ρ 0 0 ≤ 20 := hw 0 0 (by decide)
              refine ev_bipush (v := iI 20) (q := 43) dR_begin_41 (by decide) rfl ?_
              refine zr_icmp_ne (t := 49) (q := 46) dR_begin_43 rfl rfl ⟨by omega, by omega⟩ ⟨by omega, by omega⟩ (fun h24 => ?_) (fun h24 => ?_)
              · refine ev_aload_n 0 (q := 50) dR_begin_49 rfl (by rfl) rfl ?_
                refine ev_get (q := 53) dR_begin_50 fR_7 atR (by rfl) rfl ?_
                refine ev_aload_n 0 (q := 54) dR_begin_53 rfl (by rfl) rfl ?_
                refine ev_get (q := 57) (v := zi (ρ 0 0)) dR_begin_54 fR_83 atR rfl rfl ?_
                have g25 : 0 ≤ ρ 0 0 ∧ ρ 0 0 ≤ 20 := hw 0 0 (by decide)
                refine ev_iload_n 1 (q := 58) dR_begin_57 rfl (by rfl) rfl ?_
                refine zr_iast (q := 59) dR_begin_58 at_begunBy (by decide) ⟨by omega, by omega⟩ st_begunBy rfl ?_
                have hw26 : z_wf (z_up ρ 1 (ρ 0 0) node) := z_wf_up hw (show (0 : Int) ≤ node by omega) (show node ≤ (3 : Int) by omega)
                refine ev_aload_n 0 (q := 60) dR_begin_59 rfl (by rfl) rfl ?_
                refine ev_get (q := 63) dR_begin_60 fR_13 atR (by rfl) rfl ?_
                refine ev_aload_n 0 (q := 64) dR_begin_63 rfl (by rfl) rfl ?_
                refine ev_get (q := 67) (v := zi (ρ 0 0)) dR_begin_64 fR_83 atR rfl rfl ?_
                have g27 : 0 ≤ ρ 0 0 ∧ ρ 0 0 ≤ 20 := hw 0 0 (by decide)
                refine ev_iload_n 2 (q := 68) dR_begin_67 rfl (by rfl) rfl ?_
                refine zr_iast (q := 69) dR_begin_68 at_notaryOf (by decide) ⟨by omega, by omega⟩ st_notaryOf rfl ?_
                have hw28 : z_wf (z_up (z_up ρ 1 (ρ 0 0) node) 2 (ρ 0 0) notary) := z_wf_up hw26 (show (0 : Int) ≤ notary by omega) (show notary ≤ (5 : Int) by omega)
                refine ev_aload_n 0 (q := 70) dR_begin_69 rfl (by rfl) rfl ?_
                refine ev_get (q := 73) dR_begin_70 fR_16 atR (by rfl) rfl ?_
                refine ev_aload_n 0 (q := 74) dR_begin_73 rfl (by rfl) rfl ?_
                refine ev_get (q := 77) (v := zi (ρ 0 0)) dR_begin_74 fR_83 atR rfl rfl ?_
                have g29 : 0 ≤ ρ 0 0 ∧ ρ 0 0 ≤ 20 := hw 0 0 (by decide)
                refine ev_iload_n 3 (q := 78) dR_begin_77 rfl (by rfl) rfl ?_
                refine zr_iast (q := 79) dR_begin_78 at_fromTime (by decide) ⟨by omega, by omega⟩ st_fromTime rfl ?_
                have hw30 : z_wf (z_up (z_up (z_up ρ 1 (ρ 0 0) node) 2 (ρ 0 0) notary) 3 (ρ 0 0) fr) := z_wf_up hw28 (show (0 : Int) ≤ fr by omega) (show fr ≤ (1000000 : Int) by omega)
                refine ev_aload_n 0 (q := 80) dR_begin_79 rfl (by rfl) rfl ?_
                refine ev_get (q := 83) dR_begin_80 fR_19 atR (by rfl) rfl ?_
                refine ev_aload_n 0 (q := 84) dR_begin_83 rfl (by rfl) rfl ?_
                refine ev_get (q := 87) (v := zi (ρ 0 0)) dR_begin_84 fR_83 atR rfl rfl ?_
                have g31 : 0 ≤ ρ 0 0 ∧ ρ 0 0 ≤ 20 := hw 0 0 (by decide)
                refine ev_iload (q := 89) dR_begin_87 (by rfl) rfl ?_
                refine zr_iast (q := 90) dR_begin_89 at_untilTime (by decide) ⟨by omega, by omega⟩ st_untilTime rfl ?_
                have hw32 : z_wf (z_up (z_up (z_up (z_up ρ 1 (ρ 0 0) node) 2 (ρ 0 0) notary) 3 (ρ 0 0) fr) 4 (ρ 0 0) un) := z_wf_up hw30 (show (0 : Int) ≤ un by omega) (show un ≤ (1000000 : Int) by omega)
                refine ev_aload_n 0 (q := 91) dR_begin_90 rfl (by rfl) rfl ?_
                refine ev_dup (q := 92) dR_begin_91 rfl rfl ?_
                refine ev_get (q := 95) (v := zi (ρ 0 0)) dR_begin_92 fR_83 atR rfl rfl ?_
                have g33 : 0 ≤ ρ 0 0 ∧ ρ 0 0 ≤ 20 := hw 0 0 (by decide)
                refine ev_iconst (v := iI 1) (q := 96) dR_begin_95 rfl rfl ?_
                refine zr_iadd (q := 97) dR_begin_96 rfl ?_
                refine zr_puti (q := 100) dR_begin_97 gR_83 atR (Nat.le_of_ble_eq_true rfl) rfl st_many rfl ?_
                have hw34 : z_wf (z_up (z_up (z_up (z_up (z_up ρ 1 (ρ 0 0) node) 2 (ρ 0 0) notary) 3 (ρ 0 0) fr) 4 (ρ 0 0) un) 0 0 ((ρ 0 0) + 1)) := z_wf_up hw32 (show (0 : Int) ≤ ((ρ 0 0) + 1) by omega) (show ((ρ 0 0) + 1) ≤ (20 : Int) by omega)
                refine ev_aload_n 0 (q := 101) dR_begin_100 rfl (by rfl) rfl ?_
                refine ev_get (q := 104) (v := zi ((ρ 0 0) + 1)) dR_begin_101 fR_83 atR rfl rfl ?_
                refine ev_iconst (v := iI 1) (q := 105) dR_begin_104 rfl rfl ?_
                refine zr_isub (q := 106) dR_begin_105 rfl ?_
                exact zr_iret dR_begin_106 rfl ⟨by rw [rR_begin, if_neg h2, if_neg h3, if_neg (fun z => z h19), if_neg (Int.not_lt.mpr h20), if_neg (Int.not_le.mpr h21), if_pos h22, if_pos h24], by rw [rR_begin, if_neg h2, if_neg h3, if_neg (fun z => z h19), if_neg (Int.not_lt.mpr h20), if_neg (Int.not_le.mpr h21), if_pos h22, if_pos h24]⟩
              · refine ev_bipush (v := iI (-6)) (q := 48) dR_begin_46 (by decide) rfl ?_
                exact zr_iret dR_begin_48 rfl ⟨by rw [rR_begin, if_neg h2, if_neg h3, if_neg (fun z => z h19), if_neg (Int.not_lt.mpr h20), if_neg (Int.not_le.mpr h21), if_pos h22, if_neg (fun z => z h24)], by rw [rR_begin, if_neg h2, if_neg h3, if_neg (fun z => z h19), if_neg (Int.not_lt.mpr h20), if_neg (Int.not_le.mpr h21), if_pos h22, if_neg (fun z => z h24)]⟩
            · refine ev_iconst (v := iI (-1)) (q := 36) dR_begin_35 rfl rfl ?_
              exact zr_iret dR_begin_36 rfl ⟨by rw [rR_begin, if_neg h2, if_neg h3, if_neg (fun z => z h19), if_neg (Int.not_lt.mpr h20), if_neg (Int.not_le.mpr h21), if_neg (Int.not_le.mpr h22)], by rw [rR_begin, if_neg h2, if_neg h3, if_neg (fun z => z h19), if_neg (Int.not_lt.mpr h20), if_neg (Int.not_le.mpr h21), if_neg (Int.not_le.mpr h22)]⟩
set_option maxRecDepth 100000 in
set_option maxHeartbeats 4000000 in
theorem wR_begin {ρ : z_Sg} (hw : z_wf ρ) (node notary fr un : Int) (hp0 : z_rg node) (hp1 : z_rg notary) (hp2 : z_rg fr) (hp3 : z_rg un) : z_wf (rR_begin ρ node notary fr un).2 := by
  rw [rR_begin]
  have g1 : (rR_isNode ρ node) = 0 ∨ (rR_isNode ρ node) = 1 := bR_isNode _ _
  by_cases h2 : (rR_isNode ρ node) = 0
  · rw [if_pos h2]
    exact hw
  · rw [if_neg h2]
    have f35 := tR_isNode hw h2
    by_cases h3 : notary = 4
    · rw [if_pos h3]
      by_cases h4 : fr < 0
      · rw [if_pos h4]
        exact hw
      · rw [if_neg h4]
        by_cases h5 : un ≤ fr
        · rw [if_pos h5]
          exact hw
        · rw [if_neg h5]
          by_cases h6 : un ≤ 1000000
          · rw [if_pos h6]
            have g7 : 0 ≤ ρ 0 0 ∧ ρ 0 0 ≤ 20 := hw 0 0 (by decide)
            by_cases h8 : (ρ 0 0) ≠ 20
            · rw [if_pos h8]
              have g9 : 0 ≤ ρ 0 0 ∧ ρ 0 0 ≤ 20 := hw 0 0 (by decide)
              have hw10 : z_wf (z_up ρ 1 (ρ 0 0) node) := z_wf_up hw (show (0 : Int) ≤ node by omega) (show node ≤ (3 : Int) by omega)
              have g11 : 0 ≤ ρ 0 0 ∧ ρ 0 0 ≤ 20 := hw 0 0 (by decide)
              have hw12 : z_wf (z_up (z_up ρ 1 (ρ 0 0) node) 2 (ρ 0 0) notary) := z_wf_up hw10 (show (0 : Int) ≤ notary by omega) (show notary ≤ (5 : Int) by omega)
              have g13 : 0 ≤ ρ 0 0 ∧ ρ 0 0 ≤ 20 := hw 0 0 (by decide)
              have hw14 : z_wf (z_up (z_up (z_up ρ 1 (ρ 0 0) node) 2 (ρ 0 0) notary) 3 (ρ 0 0) fr) := z_wf_up hw12 (show (0 : Int) ≤ fr by omega) (show fr ≤ (1000000 : Int) by omega)
              have g15 : 0 ≤ ρ 0 0 ∧ ρ 0 0 ≤ 20 := hw 0 0 (by decide)
              have hw16 : z_wf (z_up (z_up (z_up (z_up ρ 1 (ρ 0 0) node) 2 (ρ 0 0) notary) 3 (ρ 0 0) fr) 4 (ρ 0 0) un) := z_wf_up hw14 (show (0 : Int) ≤ un by omega) (show un ≤ (1000000 : Int) by omega)
              have g17 : 0 ≤ ρ 0 0 ∧ ρ 0 0 ≤ 20 := hw 0 0 (by decide)
              have hw18 : z_wf (z_up (z_up (z_up (z_up (z_up ρ 1 (ρ 0 0) node) 2 (ρ 0 0) notary) 3 (ρ 0 0) fr) 4 (ρ 0 0) un) 0 0 ((ρ 0 0) + 1)) := z_wf_up hw16 (show (0 : Int) ≤ ((ρ 0 0) + 1) by omega) (show ((ρ 0 0) + 1) ≤ (20 : Int) by omega)
              exact hw18
            · rw [if_neg h8]
              exact hw
          · rw [if_neg h6]
            exact hw
    · rw [if_neg h3]
      by_cases h19 : notary ≠ 5
      · rw [if_pos h19]
        exact hw
      · rw [if_neg h19]
        by_cases h20 : fr < 0
        · rw [if_pos h20]
          exact hw
        · rw [if_neg h20]
          by_cases h21 : un ≤ fr
          · rw [if_pos h21]
            exact hw
          · rw [if_neg h21]
            by_cases h22 : un ≤ 1000000
            · rw [if_pos h22]
              have g23 : 0 ≤ ρ 0 0 ∧ ρ 0 0 ≤ 20 := hw 0 0 (by decide)
              by_cases h24 : (ρ 0 0) ≠ 20
              · rw [if_pos h24]
                have g25 : 0 ≤ ρ 0 0 ∧ ρ 0 0 ≤ 20 := hw 0 0 (by decide)
                have hw26 : z_wf (z_up ρ 1 (ρ 0 0) node) := z_wf_up hw (show (0 : Int) ≤ node by omega) (show node ≤ (3 : Int) by omega)
                have g27 : 0 ≤ ρ 0 0 ∧ ρ 0 0 ≤ 20 := hw 0 0 (by decide)
                have hw28 : z_wf (z_up (z_up ρ 1 (ρ 0 0) node) 2 (ρ 0 0) notary) := z_wf_up hw26 (show (0 : Int) ≤ notary by omega) (show notary ≤ (5 : Int) by omega)
                have g29 : 0 ≤ ρ 0 0 ∧ ρ 0 0 ≤ 20 := hw 0 0 (by decide)
                have hw30 : z_wf (z_up (z_up (z_up ρ 1 (ρ 0 0) node) 2 (ρ 0 0) notary) 3 (ρ 0 0) fr) := z_wf_up hw28 (show (0 : Int) ≤ fr by omega) (show fr ≤ (1000000 : Int) by omega)
                have g31 : 0 ≤ ρ 0 0 ∧ ρ 0 0 ≤ 20 := hw 0 0 (by decide)
                have hw32 : z_wf (z_up (z_up (z_up (z_up ρ 1 (ρ 0 0) node) 2 (ρ 0 0) notary) 3 (ρ 0 0) fr) 4 (ρ 0 0) un) := z_wf_up hw30 (show (0 : Int) ≤ un by omega) (show un ≤ (1000000 : Int) by omega)
                have g33 : 0 ≤ ρ 0 0 ∧ ρ 0 0 ≤ 20 := hw 0 0 (by decide)
                have hw34 : z_wf (z_up (z_up (z_up (z_up (z_up ρ 1 (ρ 0 0) node) 2 (ρ 0 0) notary) 3 (ρ 0 0) fr) 4 (ρ 0 0) un) 0 0 ((ρ 0 0) + 1)) := z_wf_up hw32 (show (0 : Int) ≤ ((ρ 0 0) + 1) by omega) (show ((ρ 0 0) + 1) ≤ (20 : Int) by omega)
                exact hw34
              · rw [if_neg h24]
                exact hw
            · rw [if_neg h22]
              exact hw

def rR_drop (ρ : z_Sg) (t : Int) : Int × z_Sg := if (rR_isTx ρ t) = 0 then (0, ρ) else if (ρ 5 t) = 0 then (1, (z_up ρ 5 t 9)) else (0, ρ)
set_option maxRecDepth 100000 in
set_option maxHeartbeats 4000000 in
theorem sR_drop {κ ρ : z_Sg} {a : Int → Nat} {B : List va_E} (hw : z_wf ρ) (t : Int) (hp0 : z_rg t) : z_Sp mR_drop (1, 21) 0 0 [.ref 12, zi t] (zM κ a ρ B) (fun r M' => r = some (zi (rR_drop ρ t).1) ∧ M' = zM κ a (rR_drop ρ t).2 B) := by
  refine z_Sp_of (L := [.ref 12, zi t]) (by decide) rfl rfl rfl (Nat.le_of_ble_eq_true rfl) ?_
  refine ev_aload_n 0 (q := 1) dR_drop_0 rfl (by rfl) rfl ?_
  refine ev_iload_n 1 (q := 2) dR_drop_1 rfl (by rfl) rfl ?_
  refine cv_V (As := [_]) (q := 5) dR_drop_2 kR_87 atR rfl rfl (by decide) rfl rfl rfl (by decide) (sR_isTx hw t ⟨by omega, by omega⟩ ) ?_
  have g1 : (rR_isTx ρ t) = 0 ∨ (rR_isTx ρ t) = 1 := bR_isTx _ _
  refine zr_if_eq (t := 17) (q := 8) dR_drop_5 rfl rfl ⟨by omega, by omega⟩ (fun h2 => ?_) (fun h2 => ?_)
  · refine ev_iconst (v := iI 0) (q := 18) dR_drop_17 rfl rfl ?_
    exact zr_zret dR_drop_18 rfl (by omega) ⟨by rw [rR_drop, if_pos h2], by rw [rR_drop, if_pos h2]⟩
  · have f6 := tR_isTx hw h2
    refine ev_aload_n 0 (q := 9) dR_drop_8 rfl (by rfl) rfl ?_
    refine ev_get (q := 12) dR_drop_9 fR_22 atR (by rfl) rfl ?_
    refine ev_iload_n 1 (q := 13) dR_drop_12 rfl (by rfl) rfl ?_
    refine zr_iald (q := 14) (g := ρ 5) dR_drop_13 at_stageOf (by decide) ⟨by omega, by omega⟩ rfl ?_
    have g3 : 0 ≤ ρ 5 t ∧ ρ 5 t ≤ 9 := hw 5 t (by decide)
    refine zr_if_eq (t := 19) (q := 17) dR_drop_14 rfl rfl ⟨by omega, by omega⟩ (fun h4 => ?_) (fun h4 => ?_)
    · refine ev_aload_n 0 (q := 20) dR_drop_19 rfl (by rfl) rfl ?_
      refine ev_get (q := 23) dR_drop_20 fR_22 atR (by rfl) rfl ?_
      refine ev_iload_n 1 (q := 24) dR_drop_23 rfl (by rfl) rfl ?_
      refine ev_bipush (v := iI 9) (q := 26) dR_drop_24 (by decide) rfl ?_
      refine zr_iast (q := 27) dR_drop_26 at_stageOf (by decide) ⟨by omega, by omega⟩ st_stageOf rfl ?_
      have hw5 : z_wf (z_up ρ 5 t 9) := z_wf_up hw (show (0 : Int) ≤ 9 by omega) (show 9 ≤ (9 : Int) by omega)
      refine ev_iconst (v := iI 1) (q := 28) dR_drop_27 rfl rfl ?_
      exact zr_zret dR_drop_28 rfl (by omega) ⟨by rw [rR_drop, if_neg h2, if_pos h4], by rw [rR_drop, if_neg h2, if_pos h4]⟩
    · refine ev_iconst (v := iI 0) (q := 18) dR_drop_17 rfl rfl ?_
      exact zr_zret dR_drop_18 rfl (by omega) ⟨by rw [rR_drop, if_neg h2, if_neg h4], by rw [rR_drop, if_neg h2, if_neg h4]⟩
set_option maxRecDepth 100000 in
set_option maxHeartbeats 4000000 in
theorem wR_drop {ρ : z_Sg} (hw : z_wf ρ) (t : Int) (hp0 : z_rg t) : z_wf (rR_drop ρ t).2 := by
  rw [rR_drop]
  have g1 : (rR_isTx ρ t) = 0 ∨ (rR_isTx ρ t) = 1 := bR_isTx _ _
  by_cases h2 : (rR_isTx ρ t) = 0
  · rw [if_pos h2]
    exact hw
  · rw [if_neg h2]
    have f6 := tR_isTx hw h2
    have g3 : 0 ≤ ρ 5 t ∧ ρ 5 t ≤ 9 := hw 5 t (by decide)
    by_cases h4 : (ρ 5 t) = 0
    · rw [if_pos h4]
      have hw5 : z_wf (z_up ρ 5 t 9) := z_wf_up hw (show (0 : Int) ≤ 9 by omega) (show 9 ≤ (9 : Int) by omega)
      exact hw5
    · rw [if_neg h4]
      exact hw

def rR_stage (ρ : z_Sg) (t : Int) : Int := if (rR_isTx ρ t) = 0 then (-1) else (ρ 5 t)
set_option maxRecDepth 100000 in
set_option maxHeartbeats 4000000 in
theorem sR_stage {κ ρ : z_Sg} {a : Int → Nat} {B : List va_E} (hw : z_wf ρ) (t : Int) (hp0 : z_rg t) : z_Sp mR_stage (1, 21) 0 0 [.ref 12, zi t] (zM κ a ρ B) (fun r M' => r = some (zi (rR_stage ρ t)) ∧ M' = zM κ a ρ B) := by
  refine z_Sp_of (L := [.ref 12, zi t]) (by decide) rfl rfl rfl (Nat.le_of_ble_eq_true rfl) ?_
  refine ev_aload_n 0 (q := 1) dR_stage_0 rfl (by rfl) rfl ?_
  refine ev_iload_n 1 (q := 2) dR_stage_1 rfl (by rfl) rfl ?_
  refine cv_V (As := [_]) (q := 5) dR_stage_2 kR_87 atR rfl rfl (by decide) rfl rfl rfl (by decide) (sR_isTx hw t ⟨by omega, by omega⟩ ) ?_
  have g1 : (rR_isTx ρ t) = 0 ∨ (rR_isTx ρ t) = 1 := bR_isTx _ _
  refine zr_if_eq (t := 17) (q := 8) dR_stage_5 rfl rfl ⟨by omega, by omega⟩ (fun h2 => ?_) (fun h2 => ?_)
  · refine ev_iconst (v := iI (-1)) (q := 18) dR_stage_17 rfl rfl ?_
    exact zr_iret dR_stage_18 rfl ⟨by rw [rR_stage, if_pos h2], rfl⟩
  · have f4 := tR_isTx hw h2
    refine ev_aload_n 0 (q := 9) dR_stage_8 rfl (by rfl) rfl ?_
    refine ev_get (q := 12) dR_stage_9 fR_22 atR (by rfl) rfl ?_
    refine ev_iload_n 1 (q := 13) dR_stage_12 rfl (by rfl) rfl ?_
    refine zr_iald (q := 14) (g := ρ 5) dR_stage_13 at_stageOf (by decide) ⟨by omega, by omega⟩ rfl ?_
    have g3 : 0 ≤ ρ 5 t ∧ ρ 5 t ≤ 9 := hw 5 t (by decide)
    refine ev_goto (t := 18) (q := 18) dR_stage_14 rfl rfl ?_
    exact zr_iret dR_stage_18 rfl ⟨by rw [rR_stage, if_neg h2], rfl⟩

def rR_verdict (ρ : z_Sg) (t : Int) : Int := if (rR_isTx ρ t) = 0 then (-1) else (ρ 8 t)
set_option maxRecDepth 100000 in
set_option maxHeartbeats 4000000 in
theorem sR_verdict {κ ρ : z_Sg} {a : Int → Nat} {B : List va_E} (hw : z_wf ρ) (t : Int) (hp0 : z_rg t) : z_Sp mR_verdict (1, 21) 0 0 [.ref 12, zi t] (zM κ a ρ B) (fun r M' => r = some (zi (rR_verdict ρ t)) ∧ M' = zM κ a ρ B) := by
  refine z_Sp_of (L := [.ref 12, zi t]) (by decide) rfl rfl rfl (Nat.le_of_ble_eq_true rfl) ?_
  refine ev_aload_n 0 (q := 1) dR_verdict_0 rfl (by rfl) rfl ?_
  refine ev_iload_n 1 (q := 2) dR_verdict_1 rfl (by rfl) rfl ?_
  refine cv_V (As := [_]) (q := 5) dR_verdict_2 kR_87 atR rfl rfl (by decide) rfl rfl rfl (by decide) (sR_isTx hw t ⟨by omega, by omega⟩ ) ?_
  have g1 : (rR_isTx ρ t) = 0 ∨ (rR_isTx ρ t) = 1 := bR_isTx _ _
  refine zr_if_eq (t := 17) (q := 8) dR_verdict_5 rfl rfl ⟨by omega, by omega⟩ (fun h2 => ?_) (fun h2 => ?_)
  · refine ev_iconst (v := iI (-1)) (q := 18) dR_verdict_17 rfl rfl ?_
    exact zr_iret dR_verdict_18 rfl ⟨by rw [rR_verdict, if_pos h2], rfl⟩
  · have f4 := tR_isTx hw h2
    refine ev_aload_n 0 (q := 9) dR_verdict_8 rfl (by rfl) rfl ?_
    refine ev_get (q := 12) dR_verdict_9 fR_32 atR (by rfl) rfl ?_
    refine ev_iload_n 1 (q := 13) dR_verdict_12 rfl (by rfl) rfl ?_
    refine zr_iald (q := 14) (g := ρ 8) dR_verdict_13 at_verdictOf (by decide) ⟨by omega, by omega⟩ rfl ?_
    have g3 : 0 ≤ ρ 8 t ∧ ρ 8 t ≤ 4 := hw 8 t (by decide)
    refine ev_goto (t := 18) (q := 18) dR_verdict_14 rfl rfl ?_
    exact zr_iret dR_verdict_18 rfl ⟨by rw [rR_verdict, if_neg h2], rfl⟩

def rR_spender (ρ : z_Sg) (u o : Int) : Int := if (rR_isState ρ u o) = 0 then (-1) else (ρ 17 ((4 * u) + o))
set_option maxRecDepth 100000 in
set_option maxHeartbeats 4000000 in
theorem sR_spender {κ ρ : z_Sg} {a : Int → Nat} {B : List va_E} (hw : z_wf ρ) (u o : Int) (hp0 : z_rg u) (hp1 : z_rg o) : z_Sp mR_spender (2, 43) 0 0 [.ref 12, zi u, zi o] (zM κ a ρ B) (fun r M' => r = some (zi (rR_spender ρ u o)) ∧ M' = zM κ a ρ B) := by
  refine z_Sp_of (L := [.ref 12, zi u, zi o]) (by decide) rfl rfl rfl (Nat.le_of_ble_eq_true rfl) ?_
  refine ev_aload_n 0 (q := 1) dR_spender_0 rfl (by rfl) rfl ?_
  refine ev_iload_n 1 (q := 2) dR_spender_1 rfl (by rfl) rfl ?_
  refine ev_iload_n 2 (q := 3) dR_spender_2 rfl (by rfl) rfl ?_
  refine cv_V (As := [_, _]) (q := 6) dR_spender_3 kR_95 atR rfl rfl (by decide) rfl rfl rfl (by decide) (sR_isState hw u o ⟨by omega, by omega⟩ ⟨by omega, by omega⟩ ) ?_
  have g1 : (rR_isState ρ u o) = 0 ∨ (rR_isState ρ u o) = 1 := bR_isState _ _ _
  refine zr_if_eq (t := 22) (q := 9) dR_spender_6 rfl rfl ⟨by omega, by omega⟩ (fun h2 => ?_) (fun h2 => ?_)
  · refine ev_iconst (v := iI (-1)) (q := 23) dR_spender_22 rfl rfl ?_
    exact zr_iret dR_spender_23 rfl ⟨by rw [rR_spender, if_pos h2], rfl⟩
  · have f4 := tR_isState hw h2
    refine ev_aload_n 0 (q := 10) dR_spender_9 rfl (by rfl) rfl ?_
    refine ev_get (q := 13) dR_spender_10 fR_59 atR (by rfl) rfl ?_
    refine ev_iconst (v := iI 4) (q := 14) dR_spender_13 rfl rfl ?_
    refine ev_iload_n 1 (q := 15) dR_spender_14 rfl (by rfl) rfl ?_
    refine zr_imul (q := 16) dR_spender_15 rfl ?_
    refine ev_iload_n 2 (q := 17) dR_spender_16 rfl (by rfl) rfl ?_
    refine zr_iadd (q := 18) dR_spender_17 rfl ?_
    refine zr_iald (q := 19) (g := ρ 17) dR_spender_18 at_usedBy (by decide) ⟨by omega, by omega⟩ rfl ?_
    have g3 : -1 ≤ ρ 17 ((4 * u) + o) ∧ ρ 17 ((4 * u) + o) ≤ 19 := hw 17 ((4 * u) + o) (by decide)
    refine ev_goto (t := 23) (q := 23) dR_spender_19 rfl rfl ?_
    exact zr_iret dR_spender_23 rfl ⟨by rw [rR_spender, if_neg h2], rfl⟩

def rR_standing (ρ : z_Sg) (n t : Int) : Int := if (rR_isNode ρ n) = 0 then (-1) else if (rR_isTx ρ t) = 0 then (-1) else (ρ 18 ((20 * n) + t))
set_option maxRecDepth 100000 in
set_option maxHeartbeats 4000000 in
theorem sR_standing {κ ρ : z_Sg} {a : Int → Nat} {B : List va_E} (hw : z_wf ρ) (n t : Int) (hp0 : z_rg n) (hp1 : z_rg t) : z_Sp mR_standing (1, 21) 0 0 [.ref 12, zi n, zi t] (zM κ a ρ B) (fun r M' => r = some (zi (rR_standing ρ n t)) ∧ M' = zM κ a ρ B) := by
  refine z_Sp_of (L := [.ref 12, zi n, zi t]) (by decide) rfl rfl rfl (Nat.le_of_ble_eq_true rfl) ?_
  refine ev_aload_n 0 (q := 1) dR_standing_0 rfl (by rfl) rfl ?_
  refine ev_iload_n 1 (q := 2) dR_standing_1 rfl (by rfl) rfl ?_
  refine cv_V (As := [_]) (q := 5) dR_standing_2 kR_91 atR rfl rfl (by decide) rfl rfl rfl (by decide) (sR_isNode hw n ⟨by omega, by omega⟩ ) ?_
  have g1 : (rR_isNode ρ n) = 0 ∨ (rR_isNode ρ n) = 1 := bR_isNode _ _
  refine zr_if_eq (t := 30) (q := 8) dR_standing_5 rfl rfl ⟨by omega, by omega⟩ (fun h2 => ?_) (fun h2 => ?_)
  · refine ev_iconst (v := iI (-1)) (q := 31) dR_standing_30 rfl rfl ?_
    exact zr_iret dR_standing_31 rfl ⟨by rw [rR_standing, if_pos h2], rfl⟩
  · have f7 := tR_isNode hw h2
    refine ev_aload_n 0 (q := 9) dR_standing_8 rfl (by rfl) rfl ?_
    refine ev_iload_n 2 (q := 10) dR_standing_9 rfl (by rfl) rfl ?_
    refine cv_V (As := [_]) (q := 13) dR_standing_10 kR_87 atR rfl rfl (by decide) rfl rfl rfl (by decide) (sR_isTx hw t ⟨by omega, by omega⟩ ) ?_
    have g3 : (rR_isTx ρ t) = 0 ∨ (rR_isTx ρ t) = 1 := bR_isTx _ _
    refine zr_if_eq (t := 30) (q := 16) dR_standing_13 rfl rfl ⟨by omega, by omega⟩ (fun h4 => ?_) (fun h4 => ?_)
    · refine ev_iconst (v := iI (-1)) (q := 31) dR_standing_30 rfl rfl ?_
      exact zr_iret dR_standing_31 rfl ⟨by rw [rR_standing, if_neg h2, if_pos h4], rfl⟩
    · have f6 := tR_isTx hw h4
      refine ev_aload_n 0 (q := 17) dR_standing_16 rfl (by rfl) rfl ?_
      refine ev_get (q := 20) dR_standing_17 fR_62 atR (by rfl) rfl ?_
      refine ev_bipush (v := iI 20) (q := 22) dR_standing_20 (by decide) rfl ?_
      refine ev_iload_n 1 (q := 23) dR_standing_22 rfl (by rfl) rfl ?_
      refine zr_imul (q := 24) dR_standing_23 rfl ?_
      refine ev_iload_n 2 (q := 25) dR_standing_24 rfl (by rfl) rfl ?_
      refine zr_iadd (q := 26) dR_standing_25 rfl ?_
      refine zr_iald (q := 27) (g := ρ 18) dR_standing_26 at_knows (by decide) ⟨by omega, by omega⟩ rfl ?_
      have g5 : 0 ≤ ρ 18 ((20 * n) + t) ∧ ρ 18 ((20 * n) + t) ≤ 2 := hw 18 ((20 * n) + t) (by decide)
      refine ev_goto (t := 31) (q := 31) dR_standing_27 rfl rfl ?_
      exact zr_iret dR_standing_31 rfl ⟨by rw [rR_standing, if_neg h2, if_neg h4], rfl⟩

def rR_fetched (ρ : z_Sg) (n : Int) : Int := if (rR_isNode ρ n) = 0 then (-1) else (ρ 20 n)
set_option maxRecDepth 100000 in
set_option maxHeartbeats 4000000 in
theorem sR_fetched {κ ρ : z_Sg} {a : Int → Nat} {B : List va_E} (hw : z_wf ρ) (n : Int) (hp0 : z_rg n) : z_Sp mR_fetched (1, 21) 0 0 [.ref 12, zi n] (zM κ a ρ B) (fun r M' => r = some (zi (rR_fetched ρ n)) ∧ M' = zM κ a ρ B) := by
  refine z_Sp_of (L := [.ref 12, zi n]) (by decide) rfl rfl rfl (Nat.le_of_ble_eq_true rfl) ?_
  refine ev_aload_n 0 (q := 1) dR_fetched_0 rfl (by rfl) rfl ?_
  refine ev_iload_n 1 (q := 2) dR_fetched_1 rfl (by rfl) rfl ?_
  refine cv_V (As := [_]) (q := 5) dR_fetched_2 kR_91 atR rfl rfl (by decide) rfl rfl rfl (by decide) (sR_isNode hw n ⟨by omega, by omega⟩ ) ?_
  have g1 : (rR_isNode ρ n) = 0 ∨ (rR_isNode ρ n) = 1 := bR_isNode _ _
  refine zr_if_eq (t := 17) (q := 8) dR_fetched_5 rfl rfl ⟨by omega, by omega⟩ (fun h2 => ?_) (fun h2 => ?_)
  · refine ev_iconst (v := iI (-1)) (q := 18) dR_fetched_17 rfl rfl ?_
    exact zr_iret dR_fetched_18 rfl ⟨by rw [rR_fetched, if_pos h2], rfl⟩
  · have f3 := tR_isNode hw h2
    refine ev_aload_n 0 (q := 9) dR_fetched_8 rfl (by rfl) rfl ?_
    refine ev_get (q := 12) dR_fetched_9 fR_68 atR (by rfl) rfl ?_
    refine ev_iload_n 1 (q := 13) dR_fetched_12 rfl (by rfl) rfl ?_
    refine zr_iald (q := 14) (g := ρ 20) dR_fetched_13 at_fetches (by decide) ⟨by omega, by omega⟩ rfl ?_
    refine ev_goto (t := 18) (q := 18) dR_fetched_14 rfl rfl ?_
    exact zr_iret dR_fetched_18 rfl ⟨by rw [rR_fetched, if_neg h2], rfl⟩

def rR_message (ρ : z_Sg) (k : Int) : Int := if k ≠ (-1) then if k < 0 then (-1) else if k < (ρ 23 0) then (ρ 22 k) else (-1) else (ρ 23 0)
set_option maxRecDepth 100000 in
set_option maxHeartbeats 4000000 in
theorem sR_message {κ ρ : z_Sg} {a : Int → Nat} {B : List va_E} (hw : z_wf ρ) (k : Int) (hp0 : z_rg k) : z_Sp mR_message (0, 0) 0 0 [.ref 12, zi k] (zM κ a ρ B) (fun r M' => r = some (zi (rR_message ρ k)) ∧ M' = zM κ a ρ B) := by
  refine z_Sp_of (L := [.ref 12, zi k]) (by decide) rfl rfl rfl (Nat.le_of_ble_eq_true rfl) ?_
  refine ev_iload_n 1 (q := 1) dR_message_0 rfl (by rfl) rfl ?_
  refine ev_iconst (v := iI (-1)) (q := 2) dR_message_1 rfl rfl ?_
  refine zr_icmp_ne (t := 12) (q := 5) dR_message_2 rfl rfl ⟨by omega, by omega⟩ ⟨by omega, by omega⟩ (fun h1 => ?_) (fun h1 => ?_)
  · refine ev_iload_n 1 (q := 13) dR_message_12 rfl (by rfl) rfl ?_
    refine zr_if_lt (t := 24) (q := 16) dR_message_13 rfl rfl ⟨by omega, by omega⟩ (fun h2 => ?_) (fun h2 => ?_)
    · refine ev_iconst (v := iI (-1)) (q := 25) dR_message_24 rfl rfl ?_
      refine ev_goto (t := 34) (q := 34) dR_message_25 rfl rfl ?_
      exact zr_iret dR_message_34 rfl ⟨by rw [rR_message, if_pos h1, if_pos h2], rfl⟩
    · refine ev_iload_n 1 (q := 17) dR_message_16 rfl (by rfl) rfl ?_
      refine ev_aload_n 0 (q := 18) dR_message_17 rfl (by rfl) rfl ?_
      refine ev_get (q := 21) (v := zi (ρ 23 0)) dR_message_18 fR_143 atR rfl rfl ?_
      have g3 : 0 ≤ ρ 23 0 ∧ ρ 23 0 ≤ 220 := hw 23 0 (by decide)
      refine zr_icmp_lt (t := 28) (q := 24) dR_message_21 rfl rfl ⟨by omega, by omega⟩ ⟨by omega, by omega⟩ (fun h4 => ?_) (fun h4 => ?_)
      · refine ev_aload_n 0 (q := 29) dR_message_28 rfl (by rfl) rfl ?_
        refine ev_get (q := 32) dR_message_29 fR_74 atR (by rfl) rfl ?_
        refine ev_iload_n 1 (q := 33) dR_message_32 rfl (by rfl) rfl ?_
        refine zr_iald (q := 34) (g := ρ 22) dR_message_33 at_waiting (by decide) ⟨by omega, by omega⟩ rfl ?_
        have g5 : 0 ≤ ρ 22 k ∧ ρ 22 k ≤ 131071 := hw 22 k (by decide)
        exact zr_iret dR_message_34 rfl ⟨by rw [rR_message, if_pos h1, if_neg (Int.not_lt.mpr h2), if_pos h4], rfl⟩
      · refine ev_iconst (v := iI (-1)) (q := 25) dR_message_24 rfl rfl ?_
        refine ev_goto (t := 34) (q := 34) dR_message_25 rfl rfl ?_
        exact zr_iret dR_message_34 rfl ⟨by rw [rR_message, if_pos h1, if_neg (Int.not_lt.mpr h2), if_neg (Int.not_lt.mpr h4)], rfl⟩
  · refine ev_aload_n 0 (q := 6) dR_message_5 rfl (by rfl) rfl ?_
    refine ev_get (q := 9) (v := zi (ρ 23 0)) dR_message_6 fR_143 atR rfl rfl ?_
    have g6 : 0 ≤ ρ 23 0 ∧ ρ 23 0 ≤ 220 := hw 23 0 (by decide)
    refine ev_goto (t := 34) (q := 34) dR_message_9 rfl rfl ?_
    exact zr_iret dR_message_34 rfl ⟨by rw [rR_message, if_neg (fun z => z h1)], rfl⟩

def rR_concerns (ρ : z_Sg) (s node : Int) : Int := if (ρ 12 s) ≠ 0 then if (ρ 12 s) ≠ 1 then 0 else if (ρ 13 s) = node then 1 else if (ρ 14 s) ≠ node then 0 else 1 else if (ρ 14 s) = node then 1 else if (ρ 12 s) ≠ 1 then 0 else if (ρ 13 s) = node then 1 else if (ρ 14 s) ≠ node then 0 else 1
theorem bR_concerns (ρ : z_Sg) (s node : Int) : rR_concerns ρ s node = 0 ∨ rR_concerns ρ s node = 1 := by
  unfold rR_concerns
  repeat' split
  all_goals first | exact Or.inl rfl | exact Or.inr rfl
set_option maxRecDepth 100000 in
set_option maxHeartbeats 4000000 in
theorem sR_concerns {κ ρ : z_Sg} {a : Int → Nat} {B : List va_E} (hw : z_wf ρ) (s node : Int) (hp0 : 0 ≤ s ∧ s ≤ 79) (hp1 : z_rg node) : z_Sp mR_concerns (0, 0) 0 0 [.ref 12, zi s, zi node] (zM κ a ρ B) (fun r M' => r = some (zi (rR_concerns ρ s node)) ∧ M' = zM κ a ρ B) := by
  refine z_Sp_of (L := [.ref 12, zi s, zi node]) (by decide) rfl rfl rfl (Nat.le_of_ble_eq_true rfl) ?_
  refine ev_aload_n 0 (q := 1) dR_concerns_0 rfl (by rfl) rfl ?_
  refine ev_get (q := 4) dR_concerns_1 fR_44 atR (by rfl) rfl ?_
  refine ev_iload_n 1 (q := 5) dR_concerns_4 rfl (by rfl) rfl ?_
  refine zr_iald (q := 6) (g := ρ 12) dR_concerns_5 at_kindOf (by decide) ⟨by omega, by omega⟩ rfl ?_
  have g1 : 0 ≤ ρ 12 s ∧ ρ 12 s ≤ 2 := hw 12 s (by decide)
  refine zr_if_ne (t := 19) (q := 9) dR_concerns_6 rfl rfl ⟨by omega, by omega⟩ (fun h2 => ?_) (fun h2 => ?_)
  · refine ev_aload_n 0 (q := 20) dR_concerns_19 rfl (by rfl) rfl ?_
    refine ev_get (q := 23) dR_concerns_20 fR_44 atR (by rfl) rfl ?_
    refine ev_iload_n 1 (q := 24) dR_concerns_23 rfl (by rfl) rfl ?_
    refine zr_iald (q := 25) (g := ρ 12) dR_concerns_24 at_kindOf (by decide) ⟨by omega, by omega⟩ rfl ?_
    have g3 : 0 ≤ ρ 12 s ∧ ρ 12 s ≤ 2 := hw 12 s (by decide)
    refine ev_iconst (v := iI 1) (q := 26) dR_concerns_25 rfl rfl ?_
    refine zr_icmp_ne (t := 53) (q := 29) dR_concerns_26 rfl rfl ⟨by omega, by omega⟩ ⟨by omega, by omega⟩ (fun h4 => ?_) (fun h4 => ?_)
    · refine ev_iconst (v := iI 0) (q := 54) dR_concerns_53 rfl rfl ?_
      exact zr_zret dR_concerns_54 rfl (by omega) ⟨by rw [rR_concerns, if_pos h2, if_pos h4], rfl⟩
    · refine ev_aload_n 0 (q := 30) dR_concerns_29 rfl (by rfl) rfl ?_
      refine ev_get (q := 33) dR_concerns_30 fR_47 atR (by rfl) rfl ?_
      refine ev_iload_n 1 (q := 34) dR_concerns_33 rfl (by rfl) rfl ?_
      refine zr_iald (q := 35) (g := ρ 13) dR_concerns_34 at_first (by decide) ⟨by omega, by omega⟩ rfl ?_
      have g5 : 0 ≤ ρ 13 s ∧ ρ 13 s ≤ 3 := hw 13 s (by decide)
      refine ev_iload_n 2 (q := 36) dR_concerns_35 rfl (by rfl) rfl ?_
      refine zr_icmp_eq (t := 49) (q := 39) dR_concerns_36 rfl rfl ⟨by omega, by omega⟩ ⟨by omega, by omega⟩ (fun h6 => ?_) (fun h6 => ?_)
      · refine ev_iconst (v := iI 1) (q := 50) dR_concerns_49 rfl rfl ?_
        refine ev_goto (t := 54) (q := 54) dR_concerns_50 rfl rfl ?_
        exact zr_zret dR_concerns_54 rfl (by omega) ⟨by rw [rR_concerns, if_pos h2, if_neg (fun z => z h4), if_pos h6], rfl⟩
      · refine ev_aload_n 0 (q := 40) dR_concerns_39 rfl (by rfl) rfl ?_
        refine ev_get (q := 43) dR_concerns_40 fR_50 atR (by rfl) rfl ?_
        refine ev_iload_n 1 (q := 44) dR_concerns_43 rfl (by rfl) rfl ?_
        refine zr_iald (q := 45) (g := ρ 14) dR_concerns_44 at_second (by decide) ⟨by omega, by omega⟩ rfl ?_
        have g7 : 0 ≤ ρ 14 s ∧ ρ 14 s ≤ 3 := hw 14 s (by decide)
        refine ev_iload_n 2 (q := 46) dR_concerns_45 rfl (by rfl) rfl ?_
        refine zr_icmp_ne (t := 53) (q := 49) dR_concerns_46 rfl rfl ⟨by omega, by omega⟩ ⟨by omega, by omega⟩ (fun h8 => ?_) (fun h8 => ?_)
        · refine ev_iconst (v := iI 0) (q := 54) dR_concerns_53 rfl rfl ?_
          exact zr_zret dR_concerns_54 rfl (by omega) ⟨by rw [rR_concerns, if_pos h2, if_neg (fun z => z h4), if_neg h6, if_pos h8], rfl⟩
        · refine ev_iconst (v := iI 1) (q := 50) dR_concerns_49 rfl rfl ?_
          refine ev_goto (t := 54) (q := 54) dR_concerns_50 rfl rfl ?_
          exact zr_zret dR_concerns_54 rfl (by omega) ⟨by rw [rR_concerns, if_pos h2, if_neg (fun z => z h4), if_neg h6, if_neg (fun z => z h8)], rfl⟩
  · refine ev_aload_n 0 (q := 10) dR_concerns_9 rfl (by rfl) rfl ?_
    refine ev_get (q := 13) dR_concerns_10 fR_50 atR (by rfl) rfl ?_
    refine ev_iload_n 1 (q := 14) dR_concerns_13 rfl (by rfl) rfl ?_
    refine zr_iald (q := 15) (g := ρ 14) dR_concerns_14 at_second (by decide) ⟨by omega, by omega⟩ rfl ?_
    have g9 : 0 ≤ ρ 14 s ∧ ρ 14 s ≤ 3 := hw 14 s (by decide)
    refine ev_iload_n 2 (q := 16) dR_concerns_15 rfl (by rfl) rfl ?_
    refine zr_icmp_eq (t := 49) (q := 19) dR_concerns_16 rfl rfl ⟨by omega, by omega⟩ ⟨by omega, by omega⟩ (fun h10 => ?_) (fun h10 => ?_)
    · refine ev_iconst (v := iI 1) (q := 50) dR_concerns_49 rfl rfl ?_
      refine ev_goto (t := 54) (q := 54) dR_concerns_50 rfl rfl ?_
      exact zr_zret dR_concerns_54 rfl (by omega) ⟨by rw [rR_concerns, if_neg (fun z => z h2), if_pos h10], rfl⟩
    · refine ev_aload_n 0 (q := 20) dR_concerns_19 rfl (by rfl) rfl ?_
      refine ev_get (q := 23) dR_concerns_20 fR_44 atR (by rfl) rfl ?_
      refine ev_iload_n 1 (q := 24) dR_concerns_23 rfl (by rfl) rfl ?_
      refine zr_iald (q := 25) (g := ρ 12) dR_concerns_24 at_kindOf (by decide) ⟨by omega, by omega⟩ rfl ?_
      have g11 : 0 ≤ ρ 12 s ∧ ρ 12 s ≤ 2 := hw 12 s (by decide)
      refine ev_iconst (v := iI 1) (q := 26) dR_concerns_25 rfl rfl ?_
      refine zr_icmp_ne (t := 53) (q := 29) dR_concerns_26 rfl rfl ⟨by omega, by omega⟩ ⟨by omega, by omega⟩ (fun h12 => ?_) (fun h12 => ?_)
      · refine ev_iconst (v := iI 0) (q := 54) dR_concerns_53 rfl rfl ?_
        exact zr_zret dR_concerns_54 rfl (by omega) ⟨by rw [rR_concerns, if_neg (fun z => z h2), if_neg h10, if_pos h12], rfl⟩
      · refine ev_aload_n 0 (q := 30) dR_concerns_29 rfl (by rfl) rfl ?_
        refine ev_get (q := 33) dR_concerns_30 fR_47 atR (by rfl) rfl ?_
        refine ev_iload_n 1 (q := 34) dR_concerns_33 rfl (by rfl) rfl ?_
        refine zr_iald (q := 35) (g := ρ 13) dR_concerns_34 at_first (by decide) ⟨by omega, by omega⟩ rfl ?_
        have g13 : 0 ≤ ρ 13 s ∧ ρ 13 s ≤ 3 := hw 13 s (by decide)
        refine ev_iload_n 2 (q := 36) dR_concerns_35 rfl (by rfl) rfl ?_
        refine zr_icmp_eq (t := 49) (q := 39) dR_concerns_36 rfl rfl ⟨by omega, by omega⟩ ⟨by omega, by omega⟩ (fun h14 => ?_) (fun h14 => ?_)
        · refine ev_iconst (v := iI 1) (q := 50) dR_concerns_49 rfl rfl ?_
          refine ev_goto (t := 54) (q := 54) dR_concerns_50 rfl rfl ?_
          exact zr_zret dR_concerns_54 rfl (by omega) ⟨by rw [rR_concerns, if_neg (fun z => z h2), if_neg h10, if_neg (fun z => z h12), if_pos h14], rfl⟩
        · refine ev_aload_n 0 (q := 40) dR_concerns_39 rfl (by rfl) rfl ?_
          refine ev_get (q := 43) dR_concerns_40 fR_50 atR (by rfl) rfl ?_
          refine ev_iload_n 1 (q := 44) dR_concerns_43 rfl (by rfl) rfl ?_
          refine zr_iald (q := 45) (g := ρ 14) dR_concerns_44 at_second (by decide) ⟨by omega, by omega⟩ rfl ?_
          have g15 : 0 ≤ ρ 14 s ∧ ρ 14 s ≤ 3 := hw 14 s (by decide)
          refine ev_iload_n 2 (q := 46) dR_concerns_45 rfl (by rfl) rfl ?_
          refine zr_icmp_ne (t := 53) (q := 49) dR_concerns_46 rfl rfl ⟨by omega, by omega⟩ ⟨by omega, by omega⟩ (fun h16 => ?_) (fun h16 => ?_)
          · refine ev_iconst (v := iI 0) (q := 54) dR_concerns_53 rfl rfl ?_
            exact zr_zret dR_concerns_54 rfl (by omega) ⟨by rw [rR_concerns, if_neg (fun z => z h2), if_neg h10, if_neg (fun z => z h12), if_neg h14, if_pos h16], rfl⟩
          · refine ev_iconst (v := iI 1) (q := 50) dR_concerns_49 rfl rfl ?_
            refine ev_goto (t := 54) (q := 54) dR_concerns_50 rfl rfl ?_
            exact zr_zret dR_concerns_54 rfl (by omega) ⟨by rw [rR_concerns, if_neg (fun z => z h2), if_neg h10, if_neg (fun z => z h12), if_neg h14, if_neg (fun z => z h16)], rfl⟩
end
section
def lR_isInput_2 (ρ : z_Sg) (t s : Int) : Nat → Int → Int
  | 0, k => 0
  | j + 1, k => if (ρ 11 ((4 * t) + k)) ≠ s then lR_isInput_2 ρ t s j (k + 1) else 1
set_option maxRecDepth 100000 in
set_option maxHeartbeats 4000000 in
theorem eR_isInput_2 {κ ρ : z_Sg} {a : Int → Nat} {B : List va_E} (hw : z_wf ρ) (t s : Int) (hp0 : 0 ≤ t ∧ t ≤ 19) (hp1 : z_rg s) : ∀ (j : Nat) (k : Int), 0 ≤ k → k + j = ρ 9 t → z_Ev mR_isInput (0, 0) 0 0 2 [.ref 12, zi t, zi s, zi k] [] (zM κ a ρ B) (fun r M' => r = some (zi (lR_isInput_2 ρ t s j k)) ∧ M' = zM κ a ρ B) := by
  intro j
  induction j with
  | zero =>
    intro k  c0 c1
    refine ev_iload_n 3 (q := 3) dR_isInput_2 rfl (by rfl) rfl ?_
    refine ev_aload_n 0 (q := 4) dR_isInput_3 rfl (by rfl) rfl ?_
    refine ev_get (q := 7) dR_isInput_4 fR_35 atR (by rfl) rfl ?_
    refine ev_iload_n 1 (q := 8) dR_isInput_7 rfl (by rfl) rfl ?_
    refine zr_iald (q := 9) (g := ρ 9) dR_isInput_8 at_inputs (by decide) ⟨by omega, by omega⟩ rfl ?_
    have g1 : 0 ≤ ρ 9 t ∧ ρ 9 t ≤ 4 := hw 9 t (by decide)
    refine zr_icmp_ge (t := 34) (q := 12) dR_isInput_9 rfl rfl ⟨by omega, by omega⟩ ⟨by omega, by omega⟩ (fun h2 => ?_) (fun h2 => ?_)
    · refine ev_iconst (v := iI 0) (q := 35) dR_isInput_34 rfl rfl ?_
      exact zr_zret dR_isInput_35 rfl (by omega) ⟨by rw [lR_isInput_2], rfl⟩
    · exfalso
      omega
  | succ j ih =>
    intro k  c0 c1
    refine ev_iload_n 3 (q := 3) dR_isInput_2 rfl (by rfl) rfl ?_
    refine ev_aload_n 0 (q := 4) dR_isInput_3 rfl (by rfl) rfl ?_
    refine ev_get (q := 7) dR_isInput_4 fR_35 atR (by rfl) rfl ?_
    refine ev_iload_n 1 (q := 8) dR_isInput_7 rfl (by rfl) rfl ?_
    refine zr_iald (q := 9) (g := ρ 9) dR_isInput_8 at_inputs (by decide) ⟨by omega, by omega⟩ rfl ?_
    have g1 : 0 ≤ ρ 9 t ∧ ρ 9 t ≤ 4 := hw 9 t (by decide)
    refine zr_icmp_ge (t := 34) (q := 12) dR_isInput_9 rfl rfl ⟨by omega, by omega⟩ ⟨by omega, by omega⟩ (fun h2 => ?_) (fun h2 => ?_)
    · exfalso
      omega
    · refine ev_aload_n 0 (q := 13) dR_isInput_12 rfl (by rfl) rfl ?_
      refine ev_get (q := 16) dR_isInput_13 fR_41 atR (by rfl) rfl ?_
      refine ev_iconst (v := iI 4) (q := 17) dR_isInput_16 rfl rfl ?_
      refine ev_iload_n 1 (q := 18) dR_isInput_17 rfl (by rfl) rfl ?_
      refine zr_imul (q := 19) dR_isInput_18 rfl ?_
      refine ev_iload_n 3 (q := 20) dR_isInput_19 rfl (by rfl) rfl ?_
      refine zr_iadd (q := 21) dR_isInput_20 rfl ?_
      refine zr_iald (q := 22) (g := ρ 11) dR_isInput_21 at_input (by decide) ⟨by omega, by omega⟩ rfl ?_
      have g3 : 0 ≤ ρ 11 ((4 * t) + k) ∧ ρ 11 ((4 * t) + k) ≤ 79 := hw 11 ((4 * t) + k) (by decide)
      refine ev_iload_n 2 (q := 23) dR_isInput_22 rfl (by rfl) rfl ?_
      refine zr_icmp_ne (t := 28) (q := 26) dR_isInput_23 rfl rfl ⟨by omega, by omega⟩ ⟨by omega, by omega⟩ (fun h4 => ?_) (fun h4 => ?_)
      · refine zr_iinc (q := 31) dR_isInput_28 (by rfl) (by decide) rfl rfl ?_
        dsimp only [List.set]
        refine ev_goto (t := 2) (q := 2) dR_isInput_31 rfl rfl ?_
        rw [show lR_isInput_2 ρ t s (j + 1) k = lR_isInput_2 ρ t s j (k + 1) from by rw [lR_isInput_2, if_pos h4]]
        exact ih (k + 1)  (by omega) (by omega)
      · refine ev_iconst (v := iI 1) (q := 27) dR_isInput_26 rfl rfl ?_
        exact zr_zret dR_isInput_27 rfl (by omega) ⟨by rw [lR_isInput_2, if_neg (fun z => z h4)], rfl⟩
def rR_isInput (ρ : z_Sg) (t s : Int) : Int := lR_isInput_2 ρ t s (ρ 9 t).toNat 0
theorem bR_isInput (ρ : z_Sg) (t s : Int) : rR_isInput ρ t s = 0 ∨ rR_isInput ρ t s = 1 := by
  have key : ∀ (j : Nat) (k : Int), lR_isInput_2 ρ t s j k = 0 ∨ lR_isInput_2 ρ t s j k = 1 := by
    intro j
    induction j with
    | zero => intro k; exact Or.inl rfl
    | succ j ih =>
      intro k
      rw [lR_isInput_2]
      split
      · exact ih _
      · exact Or.inr rfl
  exact key _ _
set_option maxRecDepth 100000 in
set_option maxHeartbeats 4000000 in
theorem sR_isInput {κ ρ : z_Sg} {a : Int → Nat} {B : List va_E} (hw : z_wf ρ) (t s : Int) (hp0 : 0 ≤ t ∧ t ≤ 19) (hp1 : z_rg s) : z_Sp mR_isInput (0, 0) 0 0 [.ref 12, zi t, zi s] (zM κ a ρ B) (fun r M' => r = some (zi (rR_isInput ρ t s)) ∧ M' = zM κ a ρ B) := by
  refine z_Sp_of (L := [.ref 12, zi t, zi s, .float 0]) (by decide) rfl rfl rfl (Nat.le_of_ble_eq_true rfl) ?_
  refine ev_iconst (v := iI 0) (q := 1) dR_isInput_0 rfl rfl ?_
  refine ev_istore_n 3 (q := 2) dR_isInput_1 rfl (by decide) rfl rfl ?_
  dsimp only [List.set]
  have g1 : 0 ≤ ρ 9 t ∧ ρ 9 t ≤ 4 := hw 9 t (by decide)
  rw [show rR_isInput ρ t s = lR_isInput_2 ρ t s (ρ 9 t).toNat 0 from by rw [rR_isInput]]
  exact eR_isInput_2 hw t s hp0 hp1 (ρ 9 t).toNat 0  (by omega) (by omega)

def rR_addInput (ρ : z_Sg) (t s : Int) : Int × z_Sg := (0, (z_up (z_up ρ 11 ((4 * t) + (ρ 9 t)) s) 9 t ((ρ 9 t) + 1)))
set_option maxRecDepth 100000 in
set_option maxHeartbeats 4000000 in
theorem sR_addInput {κ ρ : z_Sg} {a : Int → Nat} {B : List va_E} (hw : z_wf ρ) (t s : Int) (hp0 : 0 ≤ t ∧ t ≤ 19) (hp1 : 0 ≤ s ∧ s ≤ 79) (he0 : ρ 9 t ≤ 3) : z_Sp mR_addInput (0, 0) 0 0 [.ref 12, zi t, zi s] (zM κ a ρ B) (fun r M' => r = none ∧ M' = zM κ a (rR_addInput ρ t s).2 B) := by
  refine z_Sp_of (L := [.ref 12, zi t, zi s]) (by decide) rfl rfl rfl (Nat.le_of_ble_eq_true rfl) ?_
  refine ev_aload_n 0 (q := 1) dR_addInput_0 rfl (by rfl) rfl ?_
  refine ev_get (q := 4) dR_addInput_1 fR_41 atR (by rfl) rfl ?_
  refine ev_iconst (v := iI 4) (q := 5) dR_addInput_4 rfl rfl ?_
  refine ev_iload_n 1 (q := 6) dR_addInput_5 rfl (by rfl) rfl ?_
  refine zr_imul (q := 7) dR_addInput_6 rfl ?_
  refine ev_aload_n 0 (q := 8) dR_addInput_7 rfl (by rfl) rfl ?_
  refine ev_get (q := 11) dR_addInput_8 fR_35 atR (by rfl) rfl ?_
  refine ev_iload_n 1 (q := 12) dR_addInput_11 rfl (by rfl) rfl ?_
  refine zr_iald (q := 13) (g := ρ 9) dR_addInput_12 at_inputs (by decide) ⟨by omega, by omega⟩ rfl ?_
  have g1 : 0 ≤ ρ 9 t ∧ ρ 9 t ≤ 4 := hw 9 t (by decide)
  refine zr_iadd (q := 14) dR_addInput_13 rfl ?_
  refine ev_iload_n 2 (q := 15) dR_addInput_14 rfl (by rfl) rfl ?_
  refine zr_iast (q := 16) dR_addInput_15 at_input (by decide) ⟨by omega, by omega⟩ st_input rfl ?_
  have hw2 : z_wf (z_up ρ 11 ((4 * t) + (ρ 9 t)) s) := z_wf_up hw (show (0 : Int) ≤ s by omega) (show s ≤ (79 : Int) by omega)
  refine ev_aload_n 0 (q := 17) dR_addInput_16 rfl (by rfl) rfl ?_
  refine ev_get (q := 20) dR_addInput_17 fR_35 atR (by rfl) rfl ?_
  refine ev_iload_n 1 (q := 21) dR_addInput_20 rfl (by rfl) rfl ?_
  refine ev_dup2 (q := 22) dR_addInput_21 rfl rfl rfl ?_
  refine zr_iald (q := 23) (g := ρ 9) dR_addInput_22 at_inputs (by decide) ⟨by omega, by omega⟩ rfl ?_
  have g3 : 0 ≤ ρ 9 t ∧ ρ 9 t ≤ 4 := hw 9 t (by decide)
  refine ev_iconst (v := iI 1) (q := 24) dR_addInput_23 rfl rfl ?_
  refine zr_iadd (q := 25) dR_addInput_24 rfl ?_
  refine zr_iast (q := 26) dR_addInput_25 at_inputs (by decide) ⟨by omega, by omega⟩ st_inputs rfl ?_
  have hw4 : z_wf (z_up (z_up ρ 11 ((4 * t) + (ρ 9 t)) s) 9 t ((ρ 9 t) + 1)) := z_wf_up hw2 (show (0 : Int) ≤ ((ρ 9 t) + 1) by omega) (show ((ρ 9 t) + 1) ≤ (4 : Int) by omega)
  exact ev_ret dR_addInput_26 rfl ⟨rfl, by rw [rR_addInput]⟩
set_option maxRecDepth 100000 in
set_option maxHeartbeats 4000000 in
theorem wR_addInput {ρ : z_Sg} (hw : z_wf ρ) (t s : Int) (hp0 : 0 ≤ t ∧ t ≤ 19) (hp1 : 0 ≤ s ∧ s ≤ 79) (he0 : ρ 9 t ≤ 3) : z_wf (rR_addInput ρ t s).2 := by
  rw [rR_addInput]
  have g1 : 0 ≤ ρ 9 t ∧ ρ 9 t ≤ 4 := hw 9 t (by decide)
  have hw2 : z_wf (z_up ρ 11 ((4 * t) + (ρ 9 t)) s) := z_wf_up hw (show (0 : Int) ≤ s by omega) (show s ≤ (79 : Int) by omega)
  have g3 : 0 ≤ ρ 9 t ∧ ρ 9 t ≤ 4 := hw 9 t (by decide)
  have hw4 : z_wf (z_up (z_up ρ 11 ((4 * t) + (ρ 9 t)) s) 9 t ((ρ 9 t) + 1)) := z_wf_up hw2 (show (0 : Int) ≤ ((ρ 9 t) + 1) by omega) (show ((ρ 9 t) + 1) ≤ (4 : Int) by omega)
  exact hw4

def rR_addOutput (ρ : z_Sg) (t kind x y am : Int) : Int × z_Sg := (0, (z_up (z_up (z_up (z_up (z_up (z_up (z_up ρ 12 ((4 * t) + (ρ 10 t)) kind) 13 ((4 * t) + (ρ 10 t)) x) 14 ((4 * t) + (ρ 10 t)) y) 15 ((4 * t) + (ρ 10 t)) am) 16 ((4 * t) + (ρ 10 t)) (-1)) 17 ((4 * t) + (ρ 10 t)) (-1)) 10 t ((ρ 10 t) + 1)))
set_option maxRecDepth 100000 in
set_option maxHeartbeats 4000000 in
theorem sR_addOutput {κ ρ : z_Sg} {a : Int → Nat} {B : List va_E} (hw : z_wf ρ) (t kind x y am : Int) (hp0 : 0 ≤ t ∧ t ≤ 19) (hp1 : 0 ≤ kind ∧ kind ≤ 2) (hp2 : 0 ≤ x ∧ x ≤ 3) (hp3 : 0 ≤ y ∧ y ≤ 3) (hp4 : 0 ≤ am ∧ am ≤ 1000) (he0 : ρ 10 t ≤ 3) : z_Sp mR_addOutput (0, 0) 0 0 [.ref 12, zi t, zi kind, zi x, zi y, zi am] (zM κ a ρ B) (fun r M' => r = none ∧ M' = zM κ a (rR_addOutput ρ t kind x y am).2 B) := by
  refine z_Sp_of (L := [.ref 12, zi t, zi kind, zi x, zi y, zi am, .float 0]) (by decide) rfl rfl rfl (Nat.le_of_ble_eq_true rfl) ?_
  refine ev_iconst (v := iI 4) (q := 1) dR_addOutput_0 rfl rfl ?_
  refine ev_iload_n 1 (q := 2) dR_addOutput_1 rfl (by rfl) rfl ?_
  refine zr_imul (q := 3) dR_addOutput_2 rfl ?_
  refine ev_aload_n 0 (q := 4) dR_addOutput_3 rfl (by rfl) rfl ?_
  refine ev_get (q := 7) dR_addOutput_4 fR_38 atR (by rfl) rfl ?_
  refine ev_iload_n 1 (q := 8) dR_addOutput_7 rfl (by rfl) rfl ?_
  refine zr_iald (q := 9) (g := ρ 10) dR_addOutput_8 at_outputs (by decide) ⟨by omega, by omega⟩ rfl ?_
  have g1 : 0 ≤ ρ 10 t ∧ ρ 10 t ≤ 4 := hw 10 t (by decide)
  refine zr_iadd (q := 10) dR_addOutput_9 rfl ?_
  refine ev_istore (q := 12) dR_addOutput_10 (by decide) rfl rfl ?_
  dsimp only [List.set]
  refine ev_aload_n 0 (q := 13) dR_addOutput_12 rfl (by rfl) rfl ?_
  refine ev_get (q := 16) dR_addOutput_13 fR_44 atR (by rfl) rfl ?_
  refine ev_iload (q := 18) dR_addOutput_16 (by rfl) rfl ?_
  refine ev_iload_n 2 (q := 19) dR_addOutput_18 rfl (by rfl) rfl ?_
  refine zr_iast (q := 20) dR_addOutput_19 at_kindOf (by decide) ⟨by omega, by omega⟩ st_kindOf rfl ?_
  have hw2 : z_wf (z_up ρ 12 ((4 * t) + (ρ 10 t)) kind) := z_wf_up hw (show (0 : Int) ≤ kind by omega) (show kind ≤ (2 : Int) by omega)
  refine ev_aload_n 0 (q := 21) dR_addOutput_20 rfl (by rfl) rfl ?_
  refine ev_get (q := 24) dR_addOutput_21 fR_47 atR (by rfl) rfl ?_
  refine ev_iload (q := 26) dR_addOutput_24 (by rfl) rfl ?_
  refine ev_iload_n 3 (q := 27) dR_addOutput_26 rfl (by rfl) rfl ?_
  refine zr_iast (q := 28) dR_addOutput_27 at_first (by decide) ⟨by omega, by omega⟩ st_first rfl ?_
  have hw3 : z_wf (z_up (z_up ρ 12 ((4 * t) + (ρ 10 t)) kind) 13 ((4 * t) + (ρ 10 t)) x) := z_wf_up hw2 (show (0 : Int) ≤ x by omega) (show x ≤ (3 : Int) by omega)
  refine ev_aload_n 0 (q := 29) dR_addOutput_28 rfl (by rfl) rfl ?_
  refine ev_get (q := 32) dR_addOutput_29 fR_50 atR (by rfl) rfl ?_
  refine ev_iload (q := 34) dR_addOutput_32 (by rfl) rfl ?_
  refine ev_iload (q := 36) dR_addOutput_34 (by rfl) rfl ?_
  refine zr_iast (q := 37) dR_addOutput_36 at_second (by decide) ⟨by omega, by omega⟩ st_second rfl ?_
  have hw4 : z_wf (z_up (z_up (z_up ρ 12 ((4 * t) + (ρ 10 t)) kind) 13 ((4 * t) + (ρ 10 t)) x) 14 ((4 * t) + (ρ 10 t)) y) := z_wf_up hw3 (show (0 : Int) ≤ y by omega) (show y ≤ (3 : Int) by omega)
  refine ev_aload_n 0 (q := 38) dR_addOutput_37 rfl (by rfl) rfl ?_
  refine ev_get (q := 41) dR_addOutput_38 fR_53 atR (by rfl) rfl ?_
  refine ev_iload (q := 43) dR_addOutput_41 (by rfl) rfl ?_
  refine ev_iload (q := 45) dR_addOutput_43 (by rfl) rfl ?_
  refine zr_iast (q := 46) dR_addOutput_45 at_amountOf (by decide) ⟨by omega, by omega⟩ st_amountOf rfl ?_
  have hw5 : z_wf (z_up (z_up (z_up (z_up ρ 12 ((4 * t) + (ρ 10 t)) kind) 13 ((4 * t) + (ρ 10 t)) x) 14 ((4 * t) + (ρ 10 t)) y) 15 ((4 * t) + (ρ 10 t)) am) := z_wf_up hw4 (show (0 : Int) ≤ am by omega) (show am ≤ (1000 : Int) by omega)
  refine ev_aload_n 0 (q := 47) dR_addOutput_46 rfl (by rfl) rfl ?_
  refine ev_get (q := 50) dR_addOutput_47 fR_56 atR (by rfl) rfl ?_
  refine ev_iload (q := 52) dR_addOutput_50 (by rfl) rfl ?_
  refine ev_iconst (v := iI (-1)) (q := 53) dR_addOutput_52 rfl rfl ?_
  refine zr_iast (q := 54) dR_addOutput_53 at_boundTo (by decide) ⟨by omega, by omega⟩ st_boundTo rfl ?_
  have hw6 : z_wf (z_up (z_up (z_up (z_up (z_up ρ 12 ((4 * t) + (ρ 10 t)) kind) 13 ((4 * t) + (ρ 10 t)) x) 14 ((4 * t) + (ρ 10 t)) y) 15 ((4 * t) + (ρ 10 t)) am) 16 ((4 * t) + (ρ 10 t)) (-1)) := z_wf_up hw5 (show (-1 : Int) ≤ (-1) by omega) (show (-1) ≤ (3 : Int) by omega)
  refine ev_aload_n 0 (q := 55) dR_addOutput_54 rfl (by rfl) rfl ?_
  refine ev_get (q := 58) dR_addOutput_55 fR_59 atR (by rfl) rfl ?_
  refine ev_iload (q := 60) dR_addOutput_58 (by rfl) rfl ?_
  refine ev_iconst (v := iI (-1)) (q := 61) dR_addOutput_60 rfl rfl ?_
  refine zr_iast (q := 62) dR_addOutput_61 at_usedBy (by decide) ⟨by omega, by omega⟩ st_usedBy rfl ?_
  have hw7 : z_wf (z_up (z_up (z_up (z_up (z_up (z_up ρ 12 ((4 * t) + (ρ 10 t)) kind) 13 ((4 * t) + (ρ 10 t)) x) 14 ((4 * t) + (ρ 10 t)) y) 15 ((4 * t) + (ρ 10 t)) am) 16 ((4 * t) + (ρ 10 t)) (-1)) 17 ((4 * t) + (ρ 10 t)) (-1)) := z_wf_up hw6 (show (-1 : Int) ≤ (-1) by omega) (show (-1) ≤ (19 : Int) by omega)
  refine ev_aload_n 0 (q := 63) dR_addOutput_62 rfl (by rfl) rfl ?_
  refine ev_get (q := 66) dR_addOutput_63 fR_38 atR (by rfl) rfl ?_
  refine ev_iload_n 1 (q := 67) dR_addOutput_66 rfl (by rfl) rfl ?_
  refine ev_dup2 (q := 68) dR_addOutput_67 rfl rfl rfl ?_
  refine zr_iald (q := 69) (g := ρ 10) dR_addOutput_68 at_outputs (by decide) ⟨by omega, by omega⟩ rfl ?_
  have g8 : 0 ≤ ρ 10 t ∧ ρ 10 t ≤ 4 := hw 10 t (by decide)
  refine ev_iconst (v := iI 1) (q := 70) dR_addOutput_69 rfl rfl ?_
  refine zr_iadd (q := 71) dR_addOutput_70 rfl ?_
  refine zr_iast (q := 72) dR_addOutput_71 at_outputs (by decide) ⟨by omega, by omega⟩ st_outputs rfl ?_
  have hw9 : z_wf (z_up (z_up (z_up (z_up (z_up (z_up (z_up ρ 12 ((4 * t) + (ρ 10 t)) kind) 13 ((4 * t) + (ρ 10 t)) x) 14 ((4 * t) + (ρ 10 t)) y) 15 ((4 * t) + (ρ 10 t)) am) 16 ((4 * t) + (ρ 10 t)) (-1)) 17 ((4 * t) + (ρ 10 t)) (-1)) 10 t ((ρ 10 t) + 1)) := z_wf_up hw7 (show (0 : Int) ≤ ((ρ 10 t) + 1) by omega) (show ((ρ 10 t) + 1) ≤ (4 : Int) by omega)
  exact ev_ret dR_addOutput_72 rfl ⟨rfl, by rw [rR_addOutput]⟩
set_option maxRecDepth 100000 in
set_option maxHeartbeats 4000000 in
theorem wR_addOutput {ρ : z_Sg} (hw : z_wf ρ) (t kind x y am : Int) (hp0 : 0 ≤ t ∧ t ≤ 19) (hp1 : 0 ≤ kind ∧ kind ≤ 2) (hp2 : 0 ≤ x ∧ x ≤ 3) (hp3 : 0 ≤ y ∧ y ≤ 3) (hp4 : 0 ≤ am ∧ am ≤ 1000) (he0 : ρ 10 t ≤ 3) : z_wf (rR_addOutput ρ t kind x y am).2 := by
  rw [rR_addOutput]
  have g1 : 0 ≤ ρ 10 t ∧ ρ 10 t ≤ 4 := hw 10 t (by decide)
  have hw2 : z_wf (z_up ρ 12 ((4 * t) + (ρ 10 t)) kind) := z_wf_up hw (show (0 : Int) ≤ kind by omega) (show kind ≤ (2 : Int) by omega)
  have hw3 : z_wf (z_up (z_up ρ 12 ((4 * t) + (ρ 10 t)) kind) 13 ((4 * t) + (ρ 10 t)) x) := z_wf_up hw2 (show (0 : Int) ≤ x by omega) (show x ≤ (3 : Int) by omega)
  have hw4 : z_wf (z_up (z_up (z_up ρ 12 ((4 * t) + (ρ 10 t)) kind) 13 ((4 * t) + (ρ 10 t)) x) 14 ((4 * t) + (ρ 10 t)) y) := z_wf_up hw3 (show (0 : Int) ≤ y by omega) (show y ≤ (3 : Int) by omega)
  have hw5 : z_wf (z_up (z_up (z_up (z_up ρ 12 ((4 * t) + (ρ 10 t)) kind) 13 ((4 * t) + (ρ 10 t)) x) 14 ((4 * t) + (ρ 10 t)) y) 15 ((4 * t) + (ρ 10 t)) am) := z_wf_up hw4 (show (0 : Int) ≤ am by omega) (show am ≤ (1000 : Int) by omega)
  have hw6 : z_wf (z_up (z_up (z_up (z_up (z_up ρ 12 ((4 * t) + (ρ 10 t)) kind) 13 ((4 * t) + (ρ 10 t)) x) 14 ((4 * t) + (ρ 10 t)) y) 15 ((4 * t) + (ρ 10 t)) am) 16 ((4 * t) + (ρ 10 t)) (-1)) := z_wf_up hw5 (show (-1 : Int) ≤ (-1) by omega) (show (-1) ≤ (3 : Int) by omega)
  have hw7 : z_wf (z_up (z_up (z_up (z_up (z_up (z_up ρ 12 ((4 * t) + (ρ 10 t)) kind) 13 ((4 * t) + (ρ 10 t)) x) 14 ((4 * t) + (ρ 10 t)) y) 15 ((4 * t) + (ρ 10 t)) am) 16 ((4 * t) + (ρ 10 t)) (-1)) 17 ((4 * t) + (ρ 10 t)) (-1)) := z_wf_up hw6 (show (-1 : Int) ≤ (-1) by omega) (show (-1) ≤ (19 : Int) by omega)
  have g8 : 0 ≤ ρ 10 t ∧ ρ 10 t ≤ 4 := hw 10 t (by decide)
  have hw9 : z_wf (z_up (z_up (z_up (z_up (z_up (z_up (z_up ρ 12 ((4 * t) + (ρ 10 t)) kind) 13 ((4 * t) + (ρ 10 t)) x) 14 ((4 * t) + (ρ 10 t)) y) 15 ((4 * t) + (ρ 10 t)) am) 16 ((4 * t) + (ρ 10 t)) (-1)) 17 ((4 * t) + (ρ 10 t)) (-1)) 10 t ((ρ 10 t) + 1)) := z_wf_up hw7 (show (0 : Int) ≤ ((ρ 10 t) + 1) by omega) (show ((ρ 10 t) + 1) ≤ (4 : Int) by omega)
  exact hw9

def rR_consume (ρ : z_Sg) (t u o : Int) : Int × z_Sg := if (rR_isTx ρ t) = 0 then ((-1), ρ) else if (rR_isState ρ u o) ≠ 0 then if (ρ 5 t) = 0 then if (ρ 18 ((20 * (ρ 1 t)) + u)) ≠ 0 then if (ρ 2 u) = (ρ 2 t) then if (rR_isInput ρ t ((4 * u) + o)) = 0 then if (ρ 9 t) ≠ 4 then (((((rR_addInput ρ t ((4 * u) + o))).2 9 t) - 1), ((rR_addInput ρ t ((4 * u) + o))).2) else ((-6), ρ) else ((-5), ρ) else ((-4), ρ) else ((-3), ρ) else ((-2), ρ) else ((-1), ρ)
set_option maxRecDepth 100000 in
set_option maxHeartbeats 4000000 in
theorem sR_consume {κ ρ : z_Sg} {a : Int → Nat} {B : List va_E} (hw : z_wf ρ) (t u o : Int) (hp0 : z_rg t) (hp1 : z_rg u) (hp2 : z_rg o) : z_Sp mR_consume (2, 43) 0 0 [.ref 12, zi t, zi u, zi o] (zM κ a ρ B) (fun r M' => r = some (zi (rR_consume ρ t u o).1) ∧ M' = zM κ a (rR_consume ρ t u o).2 B) := by
  refine z_Sp_of (L := [.ref 12, zi t, zi u, zi o]) (by decide) rfl rfl rfl (Nat.le_of_ble_eq_true rfl) ?_
  refine ev_aload_n 0 (q := 1) dR_consume_0 rfl (by rfl) rfl ?_
  refine ev_iload_n 1 (q := 2) dR_consume_1 rfl (by rfl) rfl ?_
  refine cv_V (As := [_]) (q := 5) dR_consume_2 kR_87 atR rfl rfl (by decide) rfl rfl rfl (by decide) (sR_isTx hw t ⟨by omega, by omega⟩ ) ?_
  have g1 : (rR_isTx ρ t) = 0 ∨ (rR_isTx ρ t) = 1 := bR_isTx _ _
  refine zr_if_eq (t := 17) (q := 8) dR_consume_5 rfl rfl ⟨by omega, by omega⟩ (fun h2 => ?_) (fun h2 => ?_)
  · refine ev_iconst (v := iI (-1)) (q := 18) dR_consume_17 rfl rfl ?_
    exact zr_iret dR_consume_18 rfl ⟨by rw [rR_consume, if_pos h2], by rw [rR_consume, if_pos h2]⟩
  · have f20 := tR_isTx hw h2
    refine ev_aload_n 0 (q := 9) dR_consume_8 rfl (by rfl) rfl ?_
    refine ev_iload_n 2 (q := 10) dR_consume_9 rfl (by rfl) rfl ?_
    refine ev_iload_n 3 (q := 11) dR_consume_10 rfl (by rfl) rfl ?_
    refine cv_V (As := [_, _]) (q := 14) dR_consume_11 kR_95 atR rfl rfl (by decide) rfl rfl rfl (by decide) (sR_isState hw u o ⟨by omega, by omega⟩ ⟨by omega, by omega⟩ ) ?_
    have g3 : (rR_isState ρ u o) = 0 ∨ (rR_isState ρ u o) = 1 := bR_isState _ _ _
    refine zr_if_ne (t := 19) (q := 17) dR_consume_14 rfl rfl ⟨by omega, by omega⟩ (fun h4 => ?_) (fun h4 => ?_)
    · have f19 := tR_isState hw h4
      refine ev_aload_n 0 (q := 20) dR_consume_19 rfl (by rfl) rfl ?_
      refine ev_get (q := 23) dR_consume_20 fR_22 atR (by rfl) rfl ?_
      refine ev_iload_n 1 (q := 24) dR_consume_23 rfl (by rfl) rfl ?_
      refine zr_iald (q := 25) (g := ρ 5) dR_consume_24 at_stageOf (by decide) ⟨by omega, by omega⟩ rfl ?_
      have g5 : 0 ≤ ρ 5 t ∧ ρ 5 t ≤ 9 := hw 5 t (by decide)
      refine zr_if_eq (t := 31) (q := 28) dR_consume_25 rfl rfl ⟨by omega, by omega⟩ (fun h6 => ?_) (fun h6 => ?_)
      · refine ev_aload_n 0 (q := 32) dR_consume_31 rfl (by rfl) rfl ?_
        refine ev_get (q := 35) dR_consume_32 fR_62 atR (by rfl) rfl ?_
        refine ev_bipush (v := iI 20) (q := 37) dR_consume_35 (by decide) rfl ?_
        refine ev_aload_n 0 (q := 38) dR_consume_37 rfl (by rfl) rfl ?_
        refine ev_get (q := 41) dR_consume_38 fR_7 atR (by rfl) rfl ?_
        refine ev_iload_n 1 (q := 42) dR_consume_41 rfl (by rfl) rfl ?_
        refine zr_iald (q := 43) (g := ρ 1) dR_consume_42 at_begunBy (by decide) ⟨by omega, by omega⟩ rfl ?_
        have g7 : 0 ≤ ρ 1 t ∧ ρ 1 t ≤ 3 := hw 1 t (by decide)
        refine zr_imul (q := 44) dR_consume_43 rfl ?_
        refine ev_iload_n 2 (q := 45) dR_consume_44 rfl (by rfl) rfl ?_
        refine zr_iadd (q := 46) dR_consume_45 rfl ?_
        refine zr_iald (q := 47) (g := ρ 18) dR_consume_46 at_knows (by decide) ⟨by omega, by omega⟩ rfl ?_
        have g8 : 0 ≤ ρ 18 ((20 * (ρ 1 t)) + u) ∧ ρ 18 ((20 * (ρ 1 t)) + u) ≤ 2 := hw 18 ((20 * (ρ 1 t)) + u) (by decide)
        refine zr_if_ne (t := 53) (q := 50) dR_consume_47 rfl rfl ⟨by omega, by omega⟩ (fun h9 => ?_) (fun h9 => ?_)
        · refine ev_aload_n 0 (q := 54) dR_consume_53 rfl (by rfl) rfl ?_
          refine ev_get (q := 57) dR_consume_54 fR_13 atR (by rfl) rfl ?_
          refine ev_iload_n 2 (q := 58) dR_consume_57 rfl (by rfl) rfl ?_
          refine zr_iald (q := 59) (g := ρ 2) dR_consume_58 at_notaryOf (by decide) ⟨by omega, by omega⟩ rfl ?_
          have g10 : 0 ≤ ρ 2 u ∧ ρ 2 u ≤ 5 := hw 2 u (by decide)
          refine ev_aload_n 0 (q := 60) dR_consume_59 rfl (by rfl) rfl ?_
          refine ev_get (q := 63) dR_consume_60 fR_13 atR (by rfl) rfl ?_
          refine ev_iload_n 1 (q := 64) dR_consume_63 rfl (by rfl) rfl ?_
          refine zr_iald (q := 65) (g := ρ 2) dR_consume_64 at_notaryOf (by decide) ⟨by omega, by omega⟩ rfl ?_
          have g11 : 0 ≤ ρ 2 t ∧ ρ 2 t ≤ 5 := hw 2 t (by decide)
          refine zr_icmp_eq (t := 71) (q := 68) dR_consume_65 rfl rfl ⟨by omega, by omega⟩ ⟨by omega, by omega⟩ (fun h12 => ?_) (fun h12 => ?_)
          · refine ev_aload_n 0 (q := 72) dR_consume_71 rfl (by rfl) rfl ?_
            refine ev_iload_n 1 (q := 73) dR_consume_72 rfl (by rfl) rfl ?_
            refine ev_iconst (v := iI 4) (q := 74) dR_consume_73 rfl rfl ?_
            refine ev_iload_n 2 (q := 75) dR_consume_74 rfl (by rfl) rfl ?_
            refine zr_imul (q := 76) dR_consume_75 rfl ?_
            refine ev_iload_n 3 (q := 77) dR_consume_76 rfl (by rfl) rfl ?_
            refine zr_iadd (q := 78) dR_consume_77 rfl ?_
            refine cv_V (As := [_, _]) (q := 81) dR_consume_78 kR_99 atR rfl rfl (by decide) rfl rfl rfl (by decide) (sR_isInput hw t ((4 * u) + o) ⟨by omega, by omega⟩ ⟨by omega, by omega⟩ ) ?_
            have g13 : (rR_isInput ρ t ((4 * u) + o)) = 0 ∨ (rR_isInput ρ t ((4 * u) + o)) = 1 := bR_isInput _ _ _
            refine zr_if_eq (t := 87) (q := 84) dR_consume_81 rfl rfl ⟨by omega, by omega⟩ (fun h14 => ?_) (fun h14 => ?_)
            · refine ev_aload_n 0 (q := 88) dR_consume_87 rfl (by rfl) rfl ?_
              refine ev_get (q := 91) dR_consume_88 fR_35 atR (by rfl) rfl ?_
              refine ev_iload_n 1 (q := 92) dR_consume_91 rfl (by rfl) rfl ?_
              refine zr_iald (q := 93) (g := ρ 9) dR_consume_92 at_inputs (by decide) ⟨by omega, by omega⟩ rfl ?_
              have g15 : 0 ≤ ρ 9 t ∧ ρ 9 t ≤ 4 := hw 9 t (by decide)
              refine ev_iconst (v := iI 4) (q := 94) dR_consume_93 rfl rfl ?_
              refine zr_icmp_ne (t := 100) (q := 97) dR_consume_94 rfl rfl ⟨by omega, by omega⟩ ⟨by omega, by omega⟩ (fun h16 => ?_) (fun h16 => ?_)
              · refine ev_aload_n 0 (q := 101) dR_consume_100 rfl (by rfl) rfl ?_
                refine ev_iload_n 1 (q := 102) dR_consume_101 rfl (by rfl) rfl ?_
                refine ev_iconst (v := iI 4) (q := 103) dR_consume_102 rfl rfl ?_
                refine ev_iload_n 2 (q := 104) dR_consume_103 rfl (by rfl) rfl ?_
                refine zr_imul (q := 105) dR_consume_104 rfl ?_
                refine ev_iload_n 3 (q := 106) dR_consume_105 rfl (by rfl) rfl ?_
                refine zr_iadd (q := 107) dR_consume_106 rfl ?_
                refine cv_Vv (As := [_, _]) (q := 110) dR_consume_107 kR_102 atR rfl rfl (by decide) rfl rfl rfl (by decide) (sR_addInput hw t ((4 * u) + o) ⟨by omega, by omega⟩ ⟨by omega, by omega⟩ (by omega)) ?_
                have hw17 : z_wf ((rR_addInput ρ t ((4 * u) + o))).2 := wR_addInput hw t ((4 * u) + o) ⟨by omega, by omega⟩ ⟨by omega, by omega⟩ (by omega)
                refine ev_aload_n 0 (q := 111) dR_consume_110 rfl (by rfl) rfl ?_
                refine ev_get (q := 114) dR_consume_111 fR_35 atR (by rfl) rfl ?_
                refine ev_iload_n 1 (q := 115) dR_consume_114 rfl (by rfl) rfl ?_
                refine zr_iald (q := 116) (g := ((rR_addInput ρ t ((4 * u) + o))).2 9) dR_consume_115 at_inputs (by decide) ⟨by omega, by omega⟩ rfl ?_
                have g18 : 0 ≤ ((rR_addInput ρ t ((4 * u) + o))).2 9 t ∧ ((rR_addInput ρ t ((4 * u) + o))).2 9 t ≤ 4 := hw17 9 t (by decide)
                refine ev_iconst (v := iI 1) (q := 117) dR_consume_116 rfl rfl ?_
                refine zr_isub (q := 118) dR_consume_117 rfl ?_
                exact zr_iret dR_consume_118 rfl ⟨by rw [rR_consume, if_neg h2, if_pos h4, if_pos h6, if_pos h9, if_pos h12, if_pos h14, if_pos h16], by rw [rR_consume, if_neg h2, if_pos h4, if_pos h6, if_pos h9, if_pos h12, if_pos h14, if_pos h16]⟩
              · refine ev_bipush (v := iI (-6)) (q := 99) dR_consume_97 (by decide) rfl ?_
                exact zr_iret dR_consume_99 rfl ⟨by rw [rR_consume, if_neg h2, if_pos h4, if_pos h6, if_pos h9, if_pos h12, if_pos h14, if_neg (fun z => z h16)], by rw [rR_consume, if_neg h2, if_pos h4, if_pos h6, if_pos h9, if_pos h12, if_pos h14, if_neg (fun z => z h16)]⟩
            · refine ev_bipush (v := iI (-5)) (q := 86) dR_consume_84 (by decide) rfl ?_
              exact zr_iret dR_consume_86 rfl ⟨by rw [rR_consume, if_neg h2, if_pos h4, if_pos h6, if_pos h9, if_pos h12, if_neg h14], by rw [rR_consume, if_neg h2, if_pos h4, if_pos h6, if_pos h9, if_pos h12, if_neg h14]⟩
          · refine ev_bipush (v := iI (-4)) (q := 70) dR_consume_68 (by decide) rfl ?_
            exact zr_iret dR_consume_70 rfl ⟨by rw [rR_consume, if_neg h2, if_pos h4, if_pos h6, if_pos h9, if_neg h12], by rw [rR_consume, if_neg h2, if_pos h4, if_pos h6, if_pos h9, if_neg h12]⟩
        · refine ev_bipush (v := iI (-3)) (q := 52) dR_consume_50 (by decide) rfl ?_
          exact zr_iret dR_consume_52 rfl ⟨by rw [rR_consume, if_neg h2, if_pos h4, if_pos h6, if_neg (fun z => z h9)], by rw [rR_consume, if_neg h2, if_pos h4, if_pos h6, if_neg (fun z => z h9)]⟩
      · refine ev_bipush (v := iI (-2)) (q := 30) dR_consume_28 (by decide) rfl ?_
        exact zr_iret dR_consume_30 rfl ⟨by rw [rR_consume, if_neg h2, if_pos h4, if_neg h6], by rw [rR_consume, if_neg h2, if_pos h4, if_neg h6]⟩
    · refine ev_iconst (v := iI (-1)) (q := 18) dR_consume_17 rfl rfl ?_
      exact zr_iret dR_consume_18 rfl ⟨by rw [rR_consume, if_neg h2, if_neg (fun z => z h4)], by rw [rR_consume, if_neg h2, if_neg (fun z => z h4)]⟩
set_option maxRecDepth 100000 in
set_option maxHeartbeats 4000000 in
theorem wR_consume {ρ : z_Sg} (hw : z_wf ρ) (t u o : Int) (hp0 : z_rg t) (hp1 : z_rg u) (hp2 : z_rg o) : z_wf (rR_consume ρ t u o).2 := by
  rw [rR_consume]
  have g1 : (rR_isTx ρ t) = 0 ∨ (rR_isTx ρ t) = 1 := bR_isTx _ _
  by_cases h2 : (rR_isTx ρ t) = 0
  · rw [if_pos h2]
    exact hw
  · rw [if_neg h2]
    have f20 := tR_isTx hw h2
    have g3 : (rR_isState ρ u o) = 0 ∨ (rR_isState ρ u o) = 1 := bR_isState _ _ _
    by_cases h4 : (rR_isState ρ u o) ≠ 0
    · rw [if_pos h4]
      have f19 := tR_isState hw h4
      have g5 : 0 ≤ ρ 5 t ∧ ρ 5 t ≤ 9 := hw 5 t (by decide)
      by_cases h6 : (ρ 5 t) = 0
      · rw [if_pos h6]
        have g7 : 0 ≤ ρ 1 t ∧ ρ 1 t ≤ 3 := hw 1 t (by decide)
        have g8 : 0 ≤ ρ 18 ((20 * (ρ 1 t)) + u) ∧ ρ 18 ((20 * (ρ 1 t)) + u) ≤ 2 := hw 18 ((20 * (ρ 1 t)) + u) (by decide)
        by_cases h9 : (ρ 18 ((20 * (ρ 1 t)) + u)) ≠ 0
        · rw [if_pos h9]
          have g10 : 0 ≤ ρ 2 u ∧ ρ 2 u ≤ 5 := hw 2 u (by decide)
          have g11 : 0 ≤ ρ 2 t ∧ ρ 2 t ≤ 5 := hw 2 t (by decide)
          by_cases h12 : (ρ 2 u) = (ρ 2 t)
          · rw [if_pos h12]
            have g13 : (rR_isInput ρ t ((4 * u) + o)) = 0 ∨ (rR_isInput ρ t ((4 * u) + o)) = 1 := bR_isInput _ _ _
            by_cases h14 : (rR_isInput ρ t ((4 * u) + o)) = 0
            · rw [if_pos h14]
              have g15 : 0 ≤ ρ 9 t ∧ ρ 9 t ≤ 4 := hw 9 t (by decide)
              by_cases h16 : (ρ 9 t) ≠ 4
              · rw [if_pos h16]
                have hw17 : z_wf ((rR_addInput ρ t ((4 * u) + o))).2 := wR_addInput hw t ((4 * u) + o) ⟨by omega, by omega⟩ ⟨by omega, by omega⟩ (by omega)
                have g18 : 0 ≤ ((rR_addInput ρ t ((4 * u) + o))).2 9 t ∧ ((rR_addInput ρ t ((4 * u) + o))).2 9 t ≤ 4 := hw17 9 t (by decide)
                exact hw17
              · rw [if_neg h16]
                exact hw
            · rw [if_neg h14]
              exact hw
          · rw [if_neg h12]
            exact hw
        · rw [if_neg h9]
          exact hw
      · rw [if_neg h6]
        exact hw
    · rw [if_neg h4]
      exact hw

def rR_produce (ρ : z_Sg) (t kind x y am : Int) : Int × z_Sg := if (rR_isTx ρ t) = 0 then ((-1), ρ) else if kind < 0 then ((-1), ρ) else if 2 < kind then ((-1), ρ) else if (rR_isNode ρ x) = 0 then ((-1), ρ) else if (rR_isNode ρ y) = 0 then ((-1), ρ) else if am < 1 then ((-1), ρ) else if am ≤ 1000 then if kind ≠ 1 then if kind ≠ 2 then if (ρ 5 t) = 0 then if (ρ 10 t) ≠ 4 then (((((rR_addOutput ρ t kind x y am)).2 10 t) - 1), ((rR_addOutput ρ t kind x y am)).2) else ((-6), ρ) else ((-2), ρ) else if x ≠ 0 then ((-1), ρ) else if y = 0 then if (ρ 5 t) = 0 then if (ρ 10 t) ≠ 4 then (((((rR_addOutput ρ t kind x y am)).2 10 t) - 1), ((rR_addOutput ρ t kind x y am)).2) else ((-6), ρ) else ((-2), ρ) else ((-1), ρ) else if x = y then ((-1), ρ) else if kind ≠ 2 then if (ρ 5 t) = 0 then if (ρ 10 t) ≠ 4 then (((((rR_addOutput ρ t kind x y am)).2 10 t) - 1), ((rR_addOutput ρ t kind x y am)).2) else ((-6), ρ) else ((-2), ρ) else if x ≠ 0 then ((-1), ρ) else if y = 0 then if (ρ 5 t) = 0 then if (ρ 10 t) ≠ 4 then (((((rR_addOutput ρ t kind x y am)).2 10 t) - 1), ((rR_addOutput ρ t kind x y am)).2) else ((-6), ρ) else ((-2), ρ) else ((-1), ρ) else ((-1), ρ)
set_option maxRecDepth 100000 in
set_option maxHeartbeats 4000000 in
theorem sR_produce {κ ρ : z_Sg} {a : Int → Nat} {B : List va_E} (hw : z_wf ρ) (t kind x y am : Int) (hp0 : z_rg t) (hp1 : z_rg kind) (hp2 : z_rg x) (hp3 : z_rg y) (hp4 : z_rg am) : z_Sp mR_produce (1, 26) 0 0 [.ref 12, zi t, zi kind, zi x, zi y, zi am] (zM κ a ρ B) (fun r M' => r = some (zi (rR_produce ρ t kind x y am).1) ∧ M' = zM κ a (rR_produce ρ t kind x y am).2 B) := by
  refine z_Sp_of (L := [.ref 12, zi t, zi kind, zi x, zi y, zi am]) (by decide) rfl rfl rfl (Nat.le_of_ble_eq_true rfl) ?_
  refine ev_aload_n 0 (q := 1) dR_produce_0 rfl (by rfl) rfl ?_
  refine ev_iload_n 1 (q := 2) dR_produce_1 rfl (by rfl) rfl ?_
  refine cv_V (As := [_]) (q := 5) dR_produce_2 kR_87 atR rfl rfl (by decide) rfl rfl rfl (by decide) (sR_isTx hw t ⟨by omega, by omega⟩ ) ?_
  have g1 : (rR_isTx ρ t) = 0 ∨ (rR_isTx ρ t) = 1 := bR_isTx _ _
  refine zr_if_eq (t := 48) (q := 8) dR_produce_5 rfl rfl ⟨by omega, by omega⟩ (fun h2 => ?_) (fun h2 => ?_)
  · refine ev_iconst (v := iI (-1)) (q := 49) dR_produce_48 rfl rfl ?_
    exact zr_iret dR_produce_49 rfl ⟨by rw [rR_produce, if_pos h2], by rw [rR_produce, if_pos h2]⟩
  · have f45 := tR_isTx hw h2
    refine ev_iload_n 2 (q := 9) dR_produce_8 rfl (by rfl) rfl ?_
    refine zr_if_lt (t := 48) (q := 12) dR_produce_9 rfl rfl ⟨by omega, by omega⟩ (fun h3 => ?_) (fun h3 => ?_)
    · refine ev_iconst (v := iI (-1)) (q := 49) dR_produce_48 rfl rfl ?_
      exact zr_iret dR_produce_49 rfl ⟨by rw [rR_produce, if_neg h2, if_pos h3], by rw [rR_produce, if_neg h2, if_pos h3]⟩
    · refine ev_iload_n 2 (q := 13) dR_produce_12 rfl (by rfl) rfl ?_
      refine ev_iconst (v := iI 2) (q := 14) dR_produce_13 rfl rfl ?_
      refine zr_icmp_gt (t := 48) (q := 17) dR_produce_14 rfl rfl ⟨by omega, by omega⟩ ⟨by omega, by omega⟩ (fun h4 => ?_) (fun h4 => ?_)
      · refine ev_iconst (v := iI (-1)) (q := 49) dR_produce_48 rfl rfl ?_
        exact zr_iret dR_produce_49 rfl ⟨by rw [rR_produce, if_neg h2, if_neg (Int.not_lt.mpr h3), if_pos h4], by rw [rR_produce, if_neg h2, if_neg (Int.not_lt.mpr h3), if_pos h4]⟩
      · refine ev_aload_n 0 (q := 18) dR_produce_17 rfl (by rfl) rfl ?_
        refine ev_iload_n 3 (q := 19) dR_produce_18 rfl (by rfl) rfl ?_
        refine cv_V (As := [_]) (q := 22) dR_produce_19 kR_91 atR rfl rfl (by decide) rfl rfl rfl (by decide) (sR_isNode hw x ⟨by omega, by omega⟩ ) ?_
        have g5 : (rR_isNode ρ x) = 0 ∨ (rR_isNode ρ x) = 1 := bR_isNode _ _
        refine zr_if_eq (t := 48) (q := 25) dR_produce_22 rfl rfl ⟨by omega, by omega⟩ (fun h6 => ?_) (fun h6 => ?_)
        · refine ev_iconst (v := iI (-1)) (q := 49) dR_produce_48 rfl rfl ?_
          exact zr_iret dR_produce_49 rfl ⟨by rw [rR_produce, if_neg h2, if_neg (Int.not_lt.mpr h3), if_neg (Int.not_lt.mpr h4), if_pos h6], by rw [rR_produce, if_neg h2, if_neg (Int.not_lt.mpr h3), if_neg (Int.not_lt.mpr h4), if_pos h6]⟩
        · have f44 := tR_isNode hw h6
          refine ev_aload_n 0 (q := 26) dR_produce_25 rfl (by rfl) rfl ?_
          refine ev_iload (q := 28) dR_produce_26 (by rfl) rfl ?_
          refine cv_V (As := [_]) (q := 31) dR_produce_28 kR_91 atR rfl rfl (by decide) rfl rfl rfl (by decide) (sR_isNode hw y ⟨by omega, by omega⟩ ) ?_
          have g7 : (rR_isNode ρ y) = 0 ∨ (rR_isNode ρ y) = 1 := bR_isNode _ _
          refine zr_if_eq (t := 48) (q := 34) dR_produce_31 rfl rfl ⟨by omega, by omega⟩ (fun h8 => ?_) (fun h8 => ?_)
          · refine ev_iconst (v := iI (-1)) (q := 49) dR_produce_48 rfl rfl ?_
            exact zr_iret dR_produce_49 rfl ⟨by rw [rR_produce, if_neg h2, if_neg (Int.not_lt.mpr h3), if_neg (Int.not_lt.mpr h4), if_neg h6, if_pos h8], by rw [rR_produce, if_neg h2, if_neg (Int.not_lt.mpr h3), if_neg (Int.not_lt.mpr h4), if_neg h6, if_pos h8]⟩
          · have f43 := tR_isNode hw h8
            refine ev_iload (q := 36) dR_produce_34 (by rfl) rfl ?_
            refine ev_iconst (v := iI 1) (q := 37) dR_produce_36 rfl rfl ?_
            refine zr_icmp_lt (t := 48) (q := 40) dR_produce_37 rfl rfl ⟨by omega, by omega⟩ ⟨by omega, by omega⟩ (fun h9 => ?_) (fun h9 => ?_)
            · refine ev_iconst (v := iI (-1)) (q := 49) dR_produce_48 rfl rfl ?_
              exact zr_iret dR_produce_49 rfl ⟨by rw [rR_produce, if_neg h2, if_neg (Int.not_lt.mpr h3), if_neg (Int.not_lt.mpr h4), if_neg h6, if_neg h8, if_pos h9], by rw [rR_produce, if_neg h2, if_neg (Int.not_lt.mpr h3), if_neg (Int.not_lt.mpr h4), if_neg h6, if_neg h8, if_pos h9]⟩
            · refine ev_iload (q := 42) dR_produce_40 (by rfl) rfl ?_
              refine ev_sipush (v := iI 1000) (q := 45) dR_produce_42 (by decide) rfl ?_
              refine zr_icmp_le (t := 50) (q := 48) dR_produce_45 rfl rfl ⟨by omega, by omega⟩ ⟨by omega, by omega⟩ (fun h10 => ?_) (fun h10 => ?_)
              · refine ev_iload_n 2 (q := 51) dR_produce_50 rfl (by rfl) rfl ?_
                refine ev_iconst (v := iI 1) (q := 52) dR_produce_51 rfl rfl ?_
                refine zr_icmp_ne (t := 61) (q := 55) dR_produce_52 rfl rfl ⟨by omega, by omega⟩ ⟨by omega, by omega⟩ (fun h11 => ?_) (fun h11 => ?_)
                · refine ev_iload_n 2 (q := 62) dR_produce_61 rfl (by rfl) rfl ?_
                  refine ev_iconst (v := iI 2) (q := 63) dR_produce_62 rfl rfl ?_
                  refine zr_icmp_ne (t := 77) (q := 66) dR_produce_63 rfl rfl ⟨by omega, by omega⟩ ⟨by omega, by omega⟩ (fun h12 => ?_) (fun h12 => ?_)
                  · refine ev_aload_n 0 (q := 78) dR_produce_77 rfl (by rfl) rfl ?_
                    refine ev_get (q := 81) dR_produce_78 fR_22 atR (by rfl) rfl ?_
                    refine ev_iload_n 1 (q := 82) dR_produce_81 rfl (by rfl) rfl ?_
                    refine zr_iald (q := 83) (g := ρ 5) dR_produce_82 at_stageOf (by decide) ⟨by omega, by omega⟩ rfl ?_
                    have g13 : 0 ≤ ρ 5 t ∧ ρ 5 t ≤ 9 := hw 5 t (by decide)
                    refine zr_if_eq (t := 89) (q := 86) dR_produce_83 rfl rfl ⟨by omega, by omega⟩ (fun h14 => ?_) (fun h14 => ?_)
                    · refine ev_aload_n 0 (q := 90) dR_produce_89 rfl (by rfl) rfl ?_
                      refine ev_get (q := 93) dR_produce_90 fR_38 atR (by rfl) rfl ?_
                      refine ev_iload_n 1 (q := 94) dR_produce_93 rfl (by rfl) rfl ?_
                      refine zr_iald (q := 95) (g := ρ 10) dR_produce_94 at_outputs (by decide) ⟨by omega, by omega⟩ rfl ?_
                      have g15 : 0 ≤ ρ 10 t ∧ ρ 10 t ≤ 4 := hw 10 t (by decide)
                      refine ev_iconst (v := iI 4) (q := 96) dR_produce_95 rfl rfl ?_
                      refine zr_icmp_ne (t := 102) (q := 99) dR_produce_96 rfl rfl ⟨by omega, by omega⟩ ⟨by omega, by omega⟩ (fun h16 => ?_) (fun h16 => ?_)
                      · refine ev_aload_n 0 (q := 103) dR_produce_102 rfl (by rfl) rfl ?_
                        refine ev_iload_n 1 (q := 104) dR_produce_103 rfl (by rfl) rfl ?_
                        refine ev_iload_n 2 (q := 105) dR_produce_104 rfl (by rfl) rfl ?_
                        refine ev_iload_n 3 (q := 106) dR_produce_105 rfl (by rfl) rfl ?_
                        refine ev_iload (q := 108) dR_produce_106 (by rfl) rfl ?_
                        refine ev_iload (q := 110) dR_produce_108 (by rfl) rfl ?_
                        refine cv_Vv (As := [_, _, _, _, _]) (q := 113) dR_produce_110 kR_106 atR rfl rfl (by decide) rfl rfl rfl (by decide) (sR_addOutput hw t kind x y am ⟨by omega, by omega⟩ ⟨by omega, by omega⟩ ⟨by omega, by omega⟩ ⟨by omega, by omega⟩ ⟨by omega, by omega⟩ (by omega)) ?_
                        have hw17 : z_wf ((rR_addOutput ρ t kind x y am)).2 := wR_addOutput hw t kind x y am ⟨by omega, by omega⟩ ⟨by omega, by omega⟩ ⟨by omega, by omega⟩ ⟨by omega, by omega⟩ ⟨by omega, by omega⟩ (by omega)
                        refine ev_aload_n 0 (q := 114) dR_produce_113 rfl (by rfl) rfl ?_
                        refine ev_get (q := 117) dR_produce_114 fR_38 atR (by rfl) rfl ?_
                        refine ev_iload_n 1 (q := 118) dR_produce_117 rfl (by rfl) rfl ?_
                        refine zr_iald (q := 119) (g := ((rR_addOutput ρ t kind x y am)).2 10) dR_produce_118 at_outputs (by decide) ⟨by omega, by omega⟩ rfl ?_
                        have g18 : 0 ≤ ((rR_addOutput ρ t kind x y am)).2 10 t ∧ ((rR_addOutput ρ t kind x y am)).2 10 t ≤ 4 := hw17 10 t (by decide)
                        refine ev_iconst (v := iI 1) (q := 120) dR_produce_119 rfl rfl ?_
                        refine zr_isub (q := 121) dR_produce_120 rfl ?_
                        exact zr_iret dR_produce_121 rfl ⟨by rw [rR_produce, if_neg h2, if_neg (Int.not_lt.mpr h3), if_neg (Int.not_lt.mpr h4), if_neg h6, if_neg h8, if_neg (Int.not_lt.mpr h9), if_pos h10, if_pos h11, if_pos h12, if_pos h14, if_pos h16], by rw [rR_produce, if_neg h2, if_neg (Int.not_lt.mpr h3), if_neg (Int.not_lt.mpr h4), if_neg h6, if_neg h8, if_neg (Int.not_lt.mpr h9), if_pos h10, if_pos h11, if_pos h12, if_pos h14, if_pos h16]⟩
                      · refine ev_bipush (v := iI (-6)) (q := 101) dR_produce_99 (by decide) rfl ?_
                        exact zr_iret dR_produce_101 rfl ⟨by rw [rR_produce, if_neg h2, if_neg (Int.not_lt.mpr h3), if_neg (Int.not_lt.mpr h4), if_neg h6, if_neg h8, if_neg (Int.not_lt.mpr h9), if_pos h10, if_pos h11, if_pos h12, if_pos h14, if_neg (fun z => z h16)], by rw [rR_produce, if_neg h2, if_neg (Int.not_lt.mpr h3), if_neg (Int.not_lt.mpr h4), if_neg h6, if_neg h8, if_neg (Int.not_lt.mpr h9), if_pos h10, if_pos h11, if_pos h12, if_pos h14, if_neg (fun z => z h16)]⟩
                    · refine ev_bipush (v := iI (-2)) (q := 88) dR_produce_86 (by decide) rfl ?_
                      exact zr_iret dR_produce_88 rfl ⟨by rw [rR_produce, if_neg h2, if_neg (Int.not_lt.mpr h3), if_neg (Int.not_lt.mpr h4), if_neg h6, if_neg h8, if_neg (Int.not_lt.mpr h9), if_pos h10, if_pos h11, if_pos h12, if_neg h14], by rw [rR_produce, if_neg h2, if_neg (Int.not_lt.mpr h3), if_neg (Int.not_lt.mpr h4), if_neg h6, if_neg h8, if_neg (Int.not_lt.mpr h9), if_pos h10, if_pos h11, if_pos h12, if_neg h14]⟩
                  · refine ev_iload_n 3 (q := 67) dR_produce_66 rfl (by rfl) rfl ?_
                    refine zr_if_ne (t := 75) (q := 70) dR_produce_67 rfl rfl ⟨by omega, by omega⟩ (fun h19 => ?_) (fun h19 => ?_)
                    · refine ev_iconst (v := iI (-1)) (q := 76) dR_produce_75 rfl rfl ?_
                      exact zr_iret dR_produce_76 rfl ⟨by rw [rR_produce, if_neg h2, if_neg (Int.not_lt.mpr h3), if_neg (Int.not_lt.mpr h4), if_neg h6, if_neg h8, if_neg (Int.not_lt.mpr h9), if_pos h10, if_pos h11, if_neg (fun z => z h12), if_pos h19], by rw [rR_produce, if_neg h2, if_neg (Int.not_lt.mpr h3), if_neg (Int.not_lt.mpr h4), if_neg h6, if_neg h8, if_neg (Int.not_lt.mpr h9), if_pos h10, if_pos h11, if_neg (fun z => z h12), if_pos h19]⟩
                    · refine ev_iload (q := 72) dR_produce_70 (by rfl) rfl ?_
                      refine zr_if_eq (t := 77) (q := 75) dR_produce_72 rfl rfl ⟨by omega, by omega⟩ (fun h20 => ?_) (fun h20 => ?_)
                      · refine ev_aload_n 0 (q := 78) dR_produce_77 rfl (by rfl) rfl ?_
                        refine ev_get (q := 81) dR_produce_78 fR_22 atR (by rfl) rfl ?_
                        refine ev_iload_n 1 (q := 82) dR_produce_81 rfl (by rfl) rfl ?_
                        refine zr_iald (q := 83) (g := ρ 5) dR_produce_82 at_stageOf (by decide) ⟨by omega, by omega⟩ rfl ?_
                        have g21 : 0 ≤ ρ 5 t ∧ ρ 5 t ≤ 9 := hw 5 t (by decide)
                        refine zr_if_eq (t := 89) (q := 86) dR_produce_83 rfl rfl ⟨by omega, by omega⟩ (fun h22 => ?_) (fun h22 => ?_)
                        · refine ev_aload_n 0 (q := 90) dR_produce_89 rfl (by rfl) rfl ?_
                          refine ev_get (q := 93) dR_produce_90 fR_38 atR (by rfl) rfl ?_
                          refine ev_iload_n 1 (q := 94) dR_produce_93 rfl (by rfl) rfl ?_
                          refine zr_iald (q := 95) (g := ρ 10) dR_produce_94 at_outputs (by decide) ⟨by omega, by omega⟩ rfl ?_
                          have g23 : 0 ≤ ρ 10 t ∧ ρ 10 t ≤ 4 := hw 10 t (by decide)
                          refine ev_iconst (v := iI 4) (q := 96) dR_produce_95 rfl rfl ?_
                          refine zr_icmp_ne (t := 102) (q := 99) dR_produce_96 rfl rfl ⟨by omega, by omega⟩ ⟨by omega, by omega⟩ (fun h24 => ?_) (fun h24 => ?_)
                          · refine ev_aload_n 0 (q := 103) dR_produce_102 rfl (by rfl) rfl ?_
                            refine ev_iload_n 1 (q := 104) dR_produce_103 rfl (by rfl) rfl ?_
                            refine ev_iload_n 2 (q := 105) dR_produce_104 rfl (by rfl) rfl ?_
                            refine ev_iload_n 3 (q := 106) dR_produce_105 rfl (by rfl) rfl ?_
                            refine ev_iload (q := 108) dR_produce_106 (by rfl) rfl ?_
                            refine ev_iload (q := 110) dR_produce_108 (by rfl) rfl ?_
                            refine cv_Vv (As := [_, _, _, _, _]) (q := 113) dR_produce_110 kR_106 atR rfl rfl (by decide) rfl rfl rfl (by decide) (sR_addOutput hw t kind x y am ⟨by omega, by omega⟩ ⟨by omega, by omega⟩ ⟨by omega, by omega⟩ ⟨by omega, by omega⟩ ⟨by omega, by omega⟩ (by omega)) ?_
                            have hw25 : z_wf ((rR_addOutput ρ t kind x y am)).2 := wR_addOutput hw t kind x y am ⟨by omega, by omega⟩ ⟨by omega, by omega⟩ ⟨by omega, by omega⟩ ⟨by omega, by omega⟩ ⟨by omega, by omega⟩ (by omega)
                            refine ev_aload_n 0 (q := 114) dR_produce_113 rfl (by rfl) rfl ?_
                            refine ev_get (q := 117) dR_produce_114 fR_38 atR (by rfl) rfl ?_
                            refine ev_iload_n 1 (q := 118) dR_produce_117 rfl (by rfl) rfl ?_
                            refine zr_iald (q := 119) (g := ((rR_addOutput ρ t kind x y am)).2 10) dR_produce_118 at_outputs (by decide) ⟨by omega, by omega⟩ rfl ?_
                            have g26 : 0 ≤ ((rR_addOutput ρ t kind x y am)).2 10 t ∧ ((rR_addOutput ρ t kind x y am)).2 10 t ≤ 4 := hw25 10 t (by decide)
                            refine ev_iconst (v := iI 1) (q := 120) dR_produce_119 rfl rfl ?_
                            refine zr_isub (q := 121) dR_produce_120 rfl ?_
                            exact zr_iret dR_produce_121 rfl ⟨by rw [rR_produce, if_neg h2, if_neg (Int.not_lt.mpr h3), if_neg (Int.not_lt.mpr h4), if_neg h6, if_neg h8, if_neg (Int.not_lt.mpr h9), if_pos h10, if_pos h11, if_neg (fun z => z h12), if_neg (fun z => z h19), if_pos h20, if_pos h22, if_pos h24], by rw [rR_produce, if_neg h2, if_neg (Int.not_lt.mpr h3), if_neg (Int.not_lt.mpr h4), if_neg h6, if_neg h8, if_neg (Int.not_lt.mpr h9), if_pos h10, if_pos h11, if_neg (fun z => z h12), if_neg (fun z => z h19), if_pos h20, if_pos h22, if_pos h24]⟩
                          · refine ev_bipush (v := iI (-6)) (q := 101) dR_produce_99 (by decide) rfl ?_
                            exact zr_iret dR_produce_101 rfl ⟨by rw [rR_produce, if_neg h2, if_neg (Int.not_lt.mpr h3), if_neg (Int.not_lt.mpr h4), if_neg h6, if_neg h8, if_neg (Int.not_lt.mpr h9), if_pos h10, if_pos h11, if_neg (fun z => z h12), if_neg (fun z => z h19), if_pos h20, if_pos h22, if_neg (fun z => z h24)], by rw [rR_produce, if_neg h2, if_neg (Int.not_lt.mpr h3), if_neg (Int.not_lt.mpr h4), if_neg h6, if_neg h8, if_neg (Int.not_lt.mpr h9), if_pos h10, if_pos h11, if_neg (fun z => z h12), if_neg (fun z => z h19), if_pos h20, if_pos h22, if_neg (fun z => z h24)]⟩
                        · refine ev_bipush (v := iI (-2)) (q := 88) dR_produce_86 (by decide) rfl ?_
                          exact zr_iret dR_produce_88 rfl ⟨by rw [rR_produce, if_neg h2, if_neg (Int.not_lt.mpr h3), if_neg (Int.not_lt.mpr h4), if_neg h6, if_neg h8, if_neg (Int.not_lt.mpr h9), if_pos h10, if_pos h11, if_neg (fun z => z h12), if_neg (fun z => z h19), if_pos h20, if_neg h22], by rw [rR_produce, if_neg h2, if_neg (Int.not_lt.mpr h3), if_neg (Int.not_lt.mpr h4), if_neg h6, if_neg h8, if_neg (Int.not_lt.mpr h9), if_pos h10, if_pos h11, if_neg (fun z => z h12), if_neg (fun z => z h19), if_pos h20, if_neg h22]⟩
                      · refine ev_iconst (v := iI (-1)) (q := 76) dR_produce_75 rfl rfl ?_
                        exact zr_iret dR_produce_76 rfl ⟨by rw [rR_produce, if_neg h2, if_neg (Int.not_lt.mpr h3), if_neg (Int.not_lt.mpr h4), if_neg h6, if_neg h8, if_neg (Int.not_lt.mpr h9), if_pos h10, if_pos h11, if_neg (fun z => z h12), if_neg (fun z => z h19), if_neg h20], by rw [rR_produce, if_neg h2, if_neg (Int.not_lt.mpr h3), if_neg (Int.not_lt.mpr h4), if_neg h6, if_neg h8, if_neg (Int.not_lt.mpr h9), if_pos h10, if_pos h11, if_neg (fun z => z h12), if_neg (fun z => z h19), if_neg h20]⟩
                · refine ev_iload_n 3 (q := 56) dR_produce_55 rfl (by rfl) rfl ?_
                  refine ev_iload (q := 58) dR_produce_56 (by rfl) rfl ?_
                  refine zr_icmp_eq (t := 75) (q := 61) dR_produce_58 rfl rfl ⟨by omega, by omega⟩ ⟨by omega, by omega⟩ (fun h27 => ?_) (fun h27 => ?_)
                  · refine ev_iconst (v := iI (-1)) (q := 76) dR_produce_75 rfl rfl ?_
                    exact zr_iret dR_produce_76 rfl ⟨by rw [rR_produce, if_neg h2, if_neg (Int.not_lt.mpr h3), if_neg (Int.not_lt.mpr h4), if_neg h6, if_neg h8, if_neg (Int.not_lt.mpr h9), if_pos h10, if_neg (fun z => z h11), if_pos h27], by rw [rR_produce, if_neg h2, if_neg (Int.not_lt.mpr h3), if_neg (Int.not_lt.mpr h4), if_neg h6, if_neg h8, if_neg (Int.not_lt.mpr h9), if_pos h10, if_neg (fun z => z h11), if_pos h27]⟩
                  · refine ev_iload_n 2 (q := 62) dR_produce_61 rfl (by rfl) rfl ?_
                    refine ev_iconst (v := iI 2) (q := 63) dR_produce_62 rfl rfl ?_
                    refine zr_icmp_ne (t := 77) (q := 66) dR_produce_63 rfl rfl ⟨by omega, by omega⟩ ⟨by omega, by omega⟩ (fun h28 => ?_) (fun h28 => ?_)
                    · refine ev_aload_n 0 (q := 78) dR_produce_77 rfl (by rfl) rfl ?_
                      refine ev_get (q := 81) dR_produce_78 fR_22 atR (by rfl) rfl ?_
                      refine ev_iload_n 1 (q := 82) dR_produce_81 rfl (by rfl) rfl ?_
                      refine zr_iald (q := 83) (g := ρ 5) dR_produce_82 at_stageOf (by decide) ⟨by omega, by omega⟩ rfl ?_
                      have g29 : 0 ≤ ρ 5 t ∧ ρ 5 t ≤ 9 := hw 5 t (by decide)
                      refine zr_if_eq (t := 89) (q := 86) dR_produce_83 rfl rfl ⟨by omega, by omega⟩ (fun h30 => ?_) (fun h30 => ?_)
                      · refine ev_aload_n 0 (q := 90) dR_produce_89 rfl (by rfl) rfl ?_
                        refine ev_get (q := 93) dR_produce_90 fR_38 atR (by rfl) rfl ?_
                        refine ev_iload_n 1 (q := 94) dR_produce_93 rfl (by rfl) rfl ?_
                        refine zr_iald (q := 95) (g := ρ 10) dR_produce_94 at_outputs (by decide) ⟨by omega, by omega⟩ rfl ?_
                        have g31 : 0 ≤ ρ 10 t ∧ ρ 10 t ≤ 4 := hw 10 t (by decide)
                        refine ev_iconst (v := iI 4) (q := 96) dR_produce_95 rfl rfl ?_
                        refine zr_icmp_ne (t := 102) (q := 99) dR_produce_96 rfl rfl ⟨by omega, by omega⟩ ⟨by omega, by omega⟩ (fun h32 => ?_) (fun h32 => ?_)
                        · refine ev_aload_n 0 (q := 103) dR_produce_102 rfl (by rfl) rfl ?_
                          refine ev_iload_n 1 (q := 104) dR_produce_103 rfl (by rfl) rfl ?_
                          refine ev_iload_n 2 (q := 105) dR_produce_104 rfl (by rfl) rfl ?_
                          refine ev_iload_n 3 (q := 106) dR_produce_105 rfl (by rfl) rfl ?_
                          refine ev_iload (q := 108) dR_produce_106 (by rfl) rfl ?_
                          refine ev_iload (q := 110) dR_produce_108 (by rfl) rfl ?_
                          refine cv_Vv (As := [_, _, _, _, _]) (q := 113) dR_produce_110 kR_106 atR rfl rfl (by decide) rfl rfl rfl (by decide) (sR_addOutput hw t kind x y am ⟨by omega, by omega⟩ ⟨by omega, by omega⟩ ⟨by omega, by omega⟩ ⟨by omega, by omega⟩ ⟨by omega, by omega⟩ (by omega)) ?_
                          have hw33 : z_wf ((rR_addOutput ρ t kind x y am)).2 := wR_addOutput hw t kind x y am ⟨by omega, by omega⟩ ⟨by omega, by omega⟩ ⟨by omega, by omega⟩ ⟨by omega, by omega⟩ ⟨by omega, by omega⟩ (by omega)
                          refine ev_aload_n 0 (q := 114) dR_produce_113 rfl (by rfl) rfl ?_
                          refine ev_get (q := 117) dR_produce_114 fR_38 atR (by rfl) rfl ?_
                          refine ev_iload_n 1 (q := 118) dR_produce_117 rfl (by rfl) rfl ?_
                          refine zr_iald (q := 119) (g := ((rR_addOutput ρ t kind x y am)).2 10) dR_produce_118 at_outputs (by decide) ⟨by omega, by omega⟩ rfl ?_
                          have g34 : 0 ≤ ((rR_addOutput ρ t kind x y am)).2 10 t ∧ ((rR_addOutput ρ t kind x y am)).2 10 t ≤ 4 := hw33 10 t (by decide)
                          refine ev_iconst (v := iI 1) (q := 120) dR_produce_119 rfl rfl ?_
                          refine zr_isub (q := 121) dR_produce_120 rfl ?_
                          exact zr_iret dR_produce_121 rfl ⟨by rw [rR_produce, if_neg h2, if_neg (Int.not_lt.mpr h3), if_neg (Int.not_lt.mpr h4), if_neg h6, if_neg h8, if_neg (Int.not_lt.mpr h9), if_pos h10, if_neg (fun z => z h11), if_neg h27, if_pos h28, if_pos h30, if_pos h32], by rw [rR_produce, if_neg h2, if_neg (Int.not_lt.mpr h3), if_neg (Int.not_lt.mpr h4), if_neg h6, if_neg h8, if_neg (Int.not_lt.mpr h9), if_pos h10, if_neg (fun z => z h11), if_neg h27, if_pos h28, if_pos h30, if_pos h32]⟩
                        · refine ev_bipush (v := iI (-6)) (q := 101) dR_produce_99 (by decide) rfl ?_
                          exact zr_iret dR_produce_101 rfl ⟨by rw [rR_produce, if_neg h2, if_neg (Int.not_lt.mpr h3), if_neg (Int.not_lt.mpr h4), if_neg h6, if_neg h8, if_neg (Int.not_lt.mpr h9), if_pos h10, if_neg (fun z => z h11), if_neg h27, if_pos h28, if_pos h30, if_neg (fun z => z h32)], by rw [rR_produce, if_neg h2, if_neg (Int.not_lt.mpr h3), if_neg (Int.not_lt.mpr h4), if_neg h6, if_neg h8, if_neg (Int.not_lt.mpr h9), if_pos h10, if_neg (fun z => z h11), if_neg h27, if_pos h28, if_pos h30, if_neg (fun z => z h32)]⟩
                      · refine ev_bipush (v := iI (-2)) (q := 88) dR_produce_86 (by decide) rfl ?_
                        exact zr_iret dR_produce_88 rfl ⟨by rw [rR_produce, if_neg h2, if_neg (Int.not_lt.mpr h3), if_neg (Int.not_lt.mpr h4), if_neg h6, if_neg h8, if_neg (Int.not_lt.mpr h9), if_pos h10, if_neg (fun z => z h11), if_neg h27, if_pos h28, if_neg h30], by rw [rR_produce, if_neg h2, if_neg (Int.not_lt.mpr h3), if_neg (Int.not_lt.mpr h4), if_neg h6, if_neg h8, if_neg (Int.not_lt.mpr h9), if_pos h10, if_neg (fun z => z h11), if_neg h27, if_pos h28, if_neg h30]⟩
                    · refine ev_iload_n 3 (q := 67) dR_produce_66 rfl (by rfl) rfl ?_
                      refine zr_if_ne (t := 75) (q := 70) dR_produce_67 rfl rfl ⟨by omega, by omega⟩ (fun h35 => ?_) (fun h35 => ?_)
                      · refine ev_iconst (v := iI (-1)) (q := 76) dR_produce_75 rfl rfl ?_
                        exact zr_iret dR_produce_76 rfl ⟨by rw [rR_produce, if_neg h2, if_neg (Int.not_lt.mpr h3), if_neg (Int.not_lt.mpr h4), if_neg h6, if_neg h8, if_neg (Int.not_lt.mpr h9), if_pos h10, if_neg (fun z => z h11), if_neg h27, if_neg (fun z => z h28), if_pos h35], by rw [rR_produce, if_neg h2, if_neg (Int.not_lt.mpr h3), if_neg (Int.not_lt.mpr h4), if_neg h6, if_neg h8, if_neg (Int.not_lt.mpr h9), if_pos h10, if_neg (fun z => z h11), if_neg h27, if_neg (fun z => z h28), if_pos h35]⟩
                      · refine ev_iload (q := 72) dR_produce_70 (by rfl) rfl ?_
                        refine zr_if_eq (t := 77) (q := 75) dR_produce_72 rfl rfl ⟨by omega, by omega⟩ (fun h36 => ?_) (fun h36 => ?_)
                        · refine ev_aload_n 0 (q := 78) dR_produce_77 rfl (by rfl) rfl ?_
                          refine ev_get (q := 81) dR_produce_78 fR_22 atR (by rfl) rfl ?_
                          refine ev_iload_n 1 (q := 82) dR_produce_81 rfl (by rfl) rfl ?_
                          refine zr_iald (q := 83) (g := ρ 5) dR_produce_82 at_stageOf (by decide) ⟨by omega, by omega⟩ rfl ?_
                          have g37 : 0 ≤ ρ 5 t ∧ ρ 5 t ≤ 9 := hw 5 t (by decide)
                          refine zr_if_eq (t := 89) (q := 86) dR_produce_83 rfl rfl ⟨by omega, by omega⟩ (fun h38 => ?_) (fun h38 => ?_)
                          · refine ev_aload_n 0 (q := 90) dR_produce_89 rfl (by rfl) rfl ?_
                            refine ev_get (q := 93) dR_produce_90 fR_38 atR (by rfl) rfl ?_
                            refine ev_iload_n 1 (q := 94) dR_produce_93 rfl (by rfl) rfl ?_
                            refine zr_iald (q := 95) (g := ρ 10) dR_produce_94 at_outputs (by decide) ⟨by omega, by omega⟩ rfl ?_
                            have g39 : 0 ≤ ρ 10 t ∧ ρ 10 t ≤ 4 := hw 10 t (by decide)
                            refine ev_iconst (v := iI 4) (q := 96) dR_produce_95 rfl rfl ?_
                            refine zr_icmp_ne (t := 102) (q := 99) dR_produce_96 rfl rfl ⟨by omega, by omega⟩ ⟨by omega, by omega⟩ (fun h40 => ?_) (fun h40 => ?_)
                            · refine ev_aload_n 0 (q := 103) dR_produce_102 rfl (by rfl) rfl ?_
                              refine ev_iload_n 1 (q := 104) dR_produce_103 rfl (by rfl) rfl ?_
                              refine ev_iload_n 2 (q := 105) dR_produce_104 rfl (by rfl) rfl ?_
                              refine ev_iload_n 3 (q := 106) dR_produce_105 rfl (by rfl) rfl ?_
                              refine ev_iload (q := 108) dR_produce_106 (by rfl) rfl ?_
                              refine ev_iload (q := 110) dR_produce_108 (by rfl) rfl ?_
                              refine cv_Vv (As := [_, _, _, _, _]) (q := 113) dR_produce_110 kR_106 atR rfl rfl (by decide) rfl rfl rfl (by decide) (sR_addOutput hw t kind x y am ⟨by omega, by omega⟩ ⟨by omega, by omega⟩ ⟨by omega, by omega⟩ ⟨by omega, by omega⟩ ⟨by omega, by omega⟩ (by omega)) ?_
                              have hw41 : z_wf ((rR_addOutput ρ t kind x y am)).2 := wR_addOutput hw t kind x y am ⟨by omega, by omega⟩ ⟨by omega, by omega⟩ ⟨by omega, by omega⟩ ⟨by omega, by omega⟩ ⟨by omega, by omega⟩ (by omega)
                              refine ev_aload_n 0 (q := 114) dR_produce_113 rfl (by rfl) rfl ?_
                              refine ev_get (q := 117) dR_produce_114 fR_38 atR (by rfl) rfl ?_
                              refine ev_iload_n 1 (q := 118) dR_produce_117 rfl (by rfl) rfl ?_
                              refine zr_iald (q := 119) (g := ((rR_addOutput ρ t kind x y am)).2 10) dR_produce_118 at_outputs (by decide) ⟨by omega, by omega⟩ rfl ?_
                              have g42 : 0 ≤ ((rR_addOutput ρ t kind x y am)).2 10 t ∧ ((rR_addOutput ρ t kind x y am)).2 10 t ≤ 4 := hw41 10 t (by decide)
                              refine ev_iconst (v := iI 1) (q := 120) dR_produce_119 rfl rfl ?_
                              refine zr_isub (q := 121) dR_produce_120 rfl ?_
                              exact zr_iret dR_produce_121 rfl ⟨by rw [rR_produce, if_neg h2, if_neg (Int.not_lt.mpr h3), if_neg (Int.not_lt.mpr h4), if_neg h6, if_neg h8, if_neg (Int.not_lt.mpr h9), if_pos h10, if_neg (fun z => z h11), if_neg h27, if_neg (fun z => z h28), if_neg (fun z => z h35), if_pos h36, if_pos h38, if_pos h40], by rw [rR_produce, if_neg h2, if_neg (Int.not_lt.mpr h3), if_neg (Int.not_lt.mpr h4), if_neg h6, if_neg h8, if_neg (Int.not_lt.mpr h9), if_pos h10, if_neg (fun z => z h11), if_neg h27, if_neg (fun z => z h28), if_neg (fun z => z h35), if_pos h36, if_pos h38, if_pos h40]⟩
                            · refine ev_bipush (v := iI (-6)) (q := 101) dR_produce_99 (by decide) rfl ?_
                              exact zr_iret dR_produce_101 rfl ⟨by rw [rR_produce, if_neg h2, if_neg (Int.not_lt.mpr h3), if_neg (Int.not_lt.mpr h4), if_neg h6, if_neg h8, if_neg (Int.not_lt.mpr h9), if_pos h10, if_neg (fun z => z h11), if_neg h27, if_neg (fun z => z h28), if_neg (fun z => z h35), if_pos h36, if_pos h38, if_neg (fun z => z h40)], by rw [rR_produce, if_neg h2, if_neg (Int.not_lt.mpr h3), if_neg (Int.not_lt.mpr h4), if_neg h6, if_neg h8, if_neg (Int.not_lt.mpr h9), if_pos h10, if_neg (fun z => z h11), if_neg h27, if_neg (fun z => z h28), if_neg (fun z => z h35), if_pos h36, if_pos h38, if_neg (fun z => z h40)]⟩
                          · refine ev_bipush (v := iI (-2)) (q := 88) dR_produce_86 (by decide) rfl ?_
                            exact zr_iret dR_produce_88 rfl ⟨by rw [rR_produce, if_neg h2, if_neg (Int.not_lt.mpr h3), if_neg (Int.not_lt.mpr h4), if_neg h6, if_neg h8, if_neg (Int.not_lt.mpr h9), if_pos h10, if_neg (fun z => z h11), if_neg h27, if_neg (fun z => z h28), if_neg (fun z => z h35), if_pos h36, if_neg h38], by rw [rR_produce, if_neg h2, if_neg (Int.not_lt.mpr h3), if_neg (Int.not_lt.mpr h4), if_neg h6, if_neg h8, if_neg (Int.not_lt.mpr h9), if_pos h10, if_neg (fun z => z h11), if_neg h27, if_neg (fun z => z h28), if_neg (fun z => z h35), if_pos h36, if_neg h38]⟩
                        · refine ev_iconst (v := iI (-1)) (q := 76) dR_produce_75 rfl rfl ?_
                          exact zr_iret dR_produce_76 rfl ⟨by rw [rR_produce, if_neg h2, if_neg (Int.not_lt.mpr h3), if_neg (Int.not_lt.mpr h4), if_neg h6, if_neg h8, if_neg (Int.not_lt.mpr h9), if_pos h10, if_neg (fun z => z h11), if_neg h27, if_neg (fun z => z h28), if_neg (fun z => z h35), if_neg h36], by rw [rR_produce, if_neg h2, if_neg (Int.not_lt.mpr h3), if_neg (Int.not_lt.mpr h4), if_neg h6, if_neg h8, if_neg (Int.not_lt.mpr h9), if_pos h10, if_neg (fun z => z h11), if_neg h27, if_neg (fun z => z h28), if_neg (fun z => z h35), if_neg h36]⟩
              · refine ev_iconst (v := iI (-1)) (q := 49) dR_produce_48 rfl rfl ?_
                exact zr_iret dR_produce_49 rfl ⟨by rw [rR_produce, if_neg h2, if_neg (Int.not_lt.mpr h3), if_neg (Int.not_lt.mpr h4), if_neg h6, if_neg h8, if_neg (Int.not_lt.mpr h9), if_neg (Int.not_le.mpr h10)], by rw [rR_produce, if_neg h2, if_neg (Int.not_lt.mpr h3), if_neg (Int.not_lt.mpr h4), if_neg h6, if_neg h8, if_neg (Int.not_lt.mpr h9), if_neg (Int.not_le.mpr h10)]⟩
set_option maxRecDepth 100000 in
set_option maxHeartbeats 4000000 in
theorem wR_produce {ρ : z_Sg} (hw : z_wf ρ) (t kind x y am : Int) (hp0 : z_rg t) (hp1 : z_rg kind) (hp2 : z_rg x) (hp3 : z_rg y) (hp4 : z_rg am) : z_wf (rR_produce ρ t kind x y am).2 := by
  rw [rR_produce]
  have g1 : (rR_isTx ρ t) = 0 ∨ (rR_isTx ρ t) = 1 := bR_isTx _ _
  by_cases h2 : (rR_isTx ρ t) = 0
  · rw [if_pos h2]
    exact hw
  · rw [if_neg h2]
    have f45 := tR_isTx hw h2
    by_cases h3 : kind < 0
    · rw [if_pos h3]
      exact hw
    · rw [if_neg h3]
      by_cases h4 : 2 < kind
      · rw [if_pos h4]
        exact hw
      · rw [if_neg h4]
        have g5 : (rR_isNode ρ x) = 0 ∨ (rR_isNode ρ x) = 1 := bR_isNode _ _
        by_cases h6 : (rR_isNode ρ x) = 0
        · rw [if_pos h6]
          exact hw
        · rw [if_neg h6]
          have f44 := tR_isNode hw h6
          have g7 : (rR_isNode ρ y) = 0 ∨ (rR_isNode ρ y) = 1 := bR_isNode _ _
          by_cases h8 : (rR_isNode ρ y) = 0
          · rw [if_pos h8]
            exact hw
          · rw [if_neg h8]
            have f43 := tR_isNode hw h8
            by_cases h9 : am < 1
            · rw [if_pos h9]
              exact hw
            · rw [if_neg h9]
              by_cases h10 : am ≤ 1000
              · rw [if_pos h10]
                by_cases h11 : kind ≠ 1
                · rw [if_pos h11]
                  by_cases h12 : kind ≠ 2
                  · rw [if_pos h12]
                    have g13 : 0 ≤ ρ 5 t ∧ ρ 5 t ≤ 9 := hw 5 t (by decide)
                    by_cases h14 : (ρ 5 t) = 0
                    · rw [if_pos h14]
                      have g15 : 0 ≤ ρ 10 t ∧ ρ 10 t ≤ 4 := hw 10 t (by decide)
                      by_cases h16 : (ρ 10 t) ≠ 4
                      · rw [if_pos h16]
                        have hw17 : z_wf ((rR_addOutput ρ t kind x y am)).2 := wR_addOutput hw t kind x y am ⟨by omega, by omega⟩ ⟨by omega, by omega⟩ ⟨by omega, by omega⟩ ⟨by omega, by omega⟩ ⟨by omega, by omega⟩ (by omega)
                        have g18 : 0 ≤ ((rR_addOutput ρ t kind x y am)).2 10 t ∧ ((rR_addOutput ρ t kind x y am)).2 10 t ≤ 4 := hw17 10 t (by decide)
                        exact hw17
                      · rw [if_neg h16]
                        exact hw
                    · rw [if_neg h14]
                      exact hw
                  · rw [if_neg h12]
                    by_cases h19 : x ≠ 0
                    · rw [if_pos h19]
                      exact hw
                    · rw [if_neg h19]
                      by_cases h20 : y = 0
                      · rw [if_pos h20]
                        have g21 : 0 ≤ ρ 5 t ∧ ρ 5 t ≤ 9 := hw 5 t (by decide)
                        by_cases h22 : (ρ 5 t) = 0
                        · rw [if_pos h22]
                          have g23 : 0 ≤ ρ 10 t ∧ ρ 10 t ≤ 4 := hw 10 t (by decide)
                          by_cases h24 : (ρ 10 t) ≠ 4
                          · rw [if_pos h24]
                            have hw25 : z_wf ((rR_addOutput ρ t kind x y am)).2 := wR_addOutput hw t kind x y am ⟨by omega, by omega⟩ ⟨by omega, by omega⟩ ⟨by omega, by omega⟩ ⟨by omega, by omega⟩ ⟨by omega, by omega⟩ (by omega)
                            have g26 : 0 ≤ ((rR_addOutput ρ t kind x y am)).2 10 t ∧ ((rR_addOutput ρ t kind x y am)).2 10 t ≤ 4 := hw25 10 t (by decide)
                            exact hw25
                          · rw [if_neg h24]
                            exact hw
                        · rw [if_neg h22]
                          exact hw
                      · rw [if_neg h20]
                        exact hw
                · rw [if_neg h11]
                  by_cases h27 : x = y
                  · rw [if_pos h27]
                    exact hw
                  · rw [if_neg h27]
                    by_cases h28 : kind ≠ 2
                    · rw [if_pos h28]
                      have g29 : 0 ≤ ρ 5 t ∧ ρ 5 t ≤ 9 := hw 5 t (by decide)
                      by_cases h30 : (ρ 5 t) = 0
                      · rw [if_pos h30]
                        have g31 : 0 ≤ ρ 10 t ∧ ρ 10 t ≤ 4 := hw 10 t (by decide)
                        by_cases h32 : (ρ 10 t) ≠ 4
                        · rw [if_pos h32]
                          have hw33 : z_wf ((rR_addOutput ρ t kind x y am)).2 := wR_addOutput hw t kind x y am ⟨by omega, by omega⟩ ⟨by omega, by omega⟩ ⟨by omega, by omega⟩ ⟨by omega, by omega⟩ ⟨by omega, by omega⟩ (by omega)
                          have g34 : 0 ≤ ((rR_addOutput ρ t kind x y am)).2 10 t ∧ ((rR_addOutput ρ t kind x y am)).2 10 t ≤ 4 := hw33 10 t (by decide)
                          exact hw33
                        · rw [if_neg h32]
                          exact hw
                      · rw [if_neg h30]
                        exact hw
                    · rw [if_neg h28]
                      by_cases h35 : x ≠ 0
                      · rw [if_pos h35]
                        exact hw
                      · rw [if_neg h35]
                        by_cases h36 : y = 0
                        · rw [if_pos h36]
                          have g37 : 0 ≤ ρ 5 t ∧ ρ 5 t ≤ 9 := hw 5 t (by decide)
                          by_cases h38 : (ρ 5 t) = 0
                          · rw [if_pos h38]
                            have g39 : 0 ≤ ρ 10 t ∧ ρ 10 t ≤ 4 := hw 10 t (by decide)
                            by_cases h40 : (ρ 10 t) ≠ 4
                            · rw [if_pos h40]
                              have hw41 : z_wf ((rR_addOutput ρ t kind x y am)).2 := wR_addOutput hw t kind x y am ⟨by omega, by omega⟩ ⟨by omega, by omega⟩ ⟨by omega, by omega⟩ ⟨by omega, by omega⟩ ⟨by omega, by omega⟩ (by omega)
                              have g42 : 0 ≤ ((rR_addOutput ρ t kind x y am)).2 10 t ∧ ((rR_addOutput ρ t kind x y am)).2 10 t ≤ 4 := hw41 10 t (by decide)
                              exact hw41
                            · rw [if_neg h40]
                              exact hw
                          · rw [if_neg h38]
                            exact hw
                        · rw [if_neg h36]
                          exact hw
              · rw [if_neg h10]
                exact hw

def rR_bind (ρ : z_Sg) (t o p : Int) : Int × z_Sg := if (rR_isState ρ t o) = 0 then ((-1), ρ) else if p = (-1) then if p ≠ o then if (ρ 5 t) = 0 then (0, (z_up ρ 16 ((4 * t) + o) p)) else ((-2), ρ) else ((-1), ρ) else if (rR_isState ρ t p) = 0 then ((-1), ρ) else if p ≠ o then if (ρ 5 t) = 0 then (0, (z_up ρ 16 ((4 * t) + o) p)) else ((-2), ρ) else ((-1), ρ)
set_option maxRecDepth 100000 in
set_option maxHeartbeats 4000000 in
theorem sR_bind {κ ρ : z_Sg} {a : Int → Nat} {B : List va_E} (hw : z_wf ρ) (t o p : Int) (hp0 : z_rg t) (hp1 : z_rg o) (hp2 : z_rg p) : z_Sp mR_bind (2, 43) 0 0 [.ref 12, zi t, zi o, zi p] (zM κ a ρ B) (fun r M' => r = some (zi (rR_bind ρ t o p).1) ∧ M' = zM κ a (rR_bind ρ t o p).2 B) := by
  refine z_Sp_of (L := [.ref 12, zi t, zi o, zi p]) (by decide) rfl rfl rfl (Nat.le_of_ble_eq_true rfl) ?_
  refine ev_aload_n 0 (q := 1) dR_bind_0 rfl (by rfl) rfl ?_
  refine ev_iload_n 1 (q := 2) dR_bind_1 rfl (by rfl) rfl ?_
  refine ev_iload_n 2 (q := 3) dR_bind_2 rfl (by rfl) rfl ?_
  refine cv_V (As := [_, _]) (q := 6) dR_bind_3 kR_95 atR rfl rfl (by decide) rfl rfl rfl (by decide) (sR_isState hw t o ⟨by omega, by omega⟩ ⟨by omega, by omega⟩ ) ?_
  have g1 : (rR_isState ρ t o) = 0 ∨ (rR_isState ρ t o) = 1 := bR_isState _ _ _
  refine zr_if_eq (t := 28) (q := 9) dR_bind_6 rfl rfl ⟨by omega, by omega⟩ (fun h2 => ?_) (fun h2 => ?_)
  · refine ev_iconst (v := iI (-1)) (q := 29) dR_bind_28 rfl rfl ?_
    exact zr_iret dR_bind_29 rfl ⟨by rw [rR_bind, if_pos h2], by rw [rR_bind, if_pos h2]⟩
  · have f15 := tR_isState hw h2
    refine ev_iload_n 3 (q := 10) dR_bind_9 rfl (by rfl) rfl ?_
    refine ev_iconst (v := iI (-1)) (q := 11) dR_bind_10 rfl rfl ?_
    refine zr_icmp_eq (t := 23) (q := 14) dR_bind_11 rfl rfl ⟨by omega, by omega⟩ ⟨by omega, by omega⟩ (fun h3 => ?_) (fun h3 => ?_)
    · refine ev_iload_n 3 (q := 24) dR_bind_23 rfl (by rfl) rfl ?_
      refine ev_iload_n 2 (q := 25) dR_bind_24 rfl (by rfl) rfl ?_
      refine zr_icmp_ne (t := 30) (q := 28) dR_bind_25 rfl rfl ⟨by omega, by omega⟩ ⟨by omega, by omega⟩ (fun h4 => ?_) (fun h4 => ?_)
      · refine ev_aload_n 0 (q := 31) dR_bind_30 rfl (by rfl) rfl ?_
        refine ev_get (q := 34) dR_bind_31 fR_22 atR (by rfl) rfl ?_
        refine ev_iload_n 1 (q := 35) dR_bind_34 rfl (by rfl) rfl ?_
        refine zr_iald (q := 36) (g := ρ 5) dR_bind_35 at_stageOf (by decide) ⟨by omega, by omega⟩ rfl ?_
        have g5 : 0 ≤ ρ 5 t ∧ ρ 5 t ≤ 9 := hw 5 t (by decide)
        refine zr_if_eq (t := 42) (q := 39) dR_bind_36 rfl rfl ⟨by omega, by omega⟩ (fun h6 => ?_) (fun h6 => ?_)
        · refine ev_aload_n 0 (q := 43) dR_bind_42 rfl (by rfl) rfl ?_
          refine ev_get (q := 46) dR_bind_43 fR_56 atR (by rfl) rfl ?_
          refine ev_iconst (v := iI 4) (q := 47) dR_bind_46 rfl rfl ?_
          refine ev_iload_n 1 (q := 48) dR_bind_47 rfl (by rfl) rfl ?_
          refine zr_imul (q := 49) dR_bind_48 rfl ?_
          refine ev_iload_n 2 (q := 50) dR_bind_49 rfl (by rfl) rfl ?_
          refine zr_iadd (q := 51) dR_bind_50 rfl ?_
          refine ev_iload_n 3 (q := 52) dR_bind_51 rfl (by rfl) rfl ?_
          refine zr_iast (q := 53) dR_bind_52 at_boundTo (by decide) ⟨by omega, by omega⟩ st_boundTo rfl ?_
          have hw7 : z_wf (z_up ρ 16 ((4 * t) + o) p) := z_wf_up hw (show (-1 : Int) ≤ p by omega) (show p ≤ (3 : Int) by omega)
          refine ev_iconst (v := iI 0) (q := 54) dR_bind_53 rfl rfl ?_
          exact zr_iret dR_bind_54 rfl ⟨by rw [rR_bind, if_neg h2, if_pos h3, if_pos h4, if_pos h6], by rw [rR_bind, if_neg h2, if_pos h3, if_pos h4, if_pos h6]⟩
        · refine ev_bipush (v := iI (-2)) (q := 41) dR_bind_39 (by decide) rfl ?_
          exact zr_iret dR_bind_41 rfl ⟨by rw [rR_bind, if_neg h2, if_pos h3, if_pos h4, if_neg h6], by rw [rR_bind, if_neg h2, if_pos h3, if_pos h4, if_neg h6]⟩
      · refine ev_iconst (v := iI (-1)) (q := 29) dR_bind_28 rfl rfl ?_
        exact zr_iret dR_bind_29 rfl ⟨by rw [rR_bind, if_neg h2, if_pos h3, if_neg (fun z => z h4)], by rw [rR_bind, if_neg h2, if_pos h3, if_neg (fun z => z h4)]⟩
    · refine ev_aload_n 0 (q := 15) dR_bind_14 rfl (by rfl) rfl ?_
      refine ev_iload_n 1 (q := 16) dR_bind_15 rfl (by rfl) rfl ?_
      refine ev_iload_n 3 (q := 17) dR_bind_16 rfl (by rfl) rfl ?_
      refine cv_V (As := [_, _]) (q := 20) dR_bind_17 kR_95 atR rfl rfl (by decide) rfl rfl rfl (by decide) (sR_isState hw t p ⟨by omega, by omega⟩ ⟨by omega, by omega⟩ ) ?_
      have g8 : (rR_isState ρ t p) = 0 ∨ (rR_isState ρ t p) = 1 := bR_isState _ _ _
      refine zr_if_eq (t := 28) (q := 23) dR_bind_20 rfl rfl ⟨by omega, by omega⟩ (fun h9 => ?_) (fun h9 => ?_)
      · refine ev_iconst (v := iI (-1)) (q := 29) dR_bind_28 rfl rfl ?_
        exact zr_iret dR_bind_29 rfl ⟨by rw [rR_bind, if_neg h2, if_neg h3, if_pos h9], by rw [rR_bind, if_neg h2, if_neg h3, if_pos h9]⟩
      · have f14 := tR_isState hw h9
        refine ev_iload_n 3 (q := 24) dR_bind_23 rfl (by rfl) rfl ?_
        refine ev_iload_n 2 (q := 25) dR_bind_24 rfl (by rfl) rfl ?_
        refine zr_icmp_ne (t := 30) (q := 28) dR_bind_25 rfl rfl ⟨by omega, by omega⟩ ⟨by omega, by omega⟩ (fun h10 => ?_) (fun h10 => ?_)
        · refine ev_aload_n 0 (q := 31) dR_bind_30 rfl (by rfl) rfl ?_
          refine ev_get (q := 34) dR_bind_31 fR_22 atR (by rfl) rfl ?_
          refine ev_iload_n 1 (q := 35) dR_bind_34 rfl (by rfl) rfl ?_
          refine zr_iald (q := 36) (g := ρ 5) dR_bind_35 at_stageOf (by decide) ⟨by omega, by omega⟩ rfl ?_
          have g11 : 0 ≤ ρ 5 t ∧ ρ 5 t ≤ 9 := hw 5 t (by decide)
          refine zr_if_eq (t := 42) (q := 39) dR_bind_36 rfl rfl ⟨by omega, by omega⟩ (fun h12 => ?_) (fun h12 => ?_)
          · refine ev_aload_n 0 (q := 43) dR_bind_42 rfl (by rfl) rfl ?_
            refine ev_get (q := 46) dR_bind_43 fR_56 atR (by rfl) rfl ?_
            refine ev_iconst (v := iI 4) (q := 47) dR_bind_46 rfl rfl ?_
            refine ev_iload_n 1 (q := 48) dR_bind_47 rfl (by rfl) rfl ?_
            refine zr_imul (q := 49) dR_bind_48 rfl ?_
            refine ev_iload_n 2 (q := 50) dR_bind_49 rfl (by rfl) rfl ?_
            refine zr_iadd (q := 51) dR_bind_50 rfl ?_
            refine ev_iload_n 3 (q := 52) dR_bind_51 rfl (by rfl) rfl ?_
            refine zr_iast (q := 53) dR_bind_52 at_boundTo (by decide) ⟨by omega, by omega⟩ st_boundTo rfl ?_
            have hw13 : z_wf (z_up ρ 16 ((4 * t) + o) p) := z_wf_up hw (show (-1 : Int) ≤ p by omega) (show p ≤ (3 : Int) by omega)
            refine ev_iconst (v := iI 0) (q := 54) dR_bind_53 rfl rfl ?_
            exact zr_iret dR_bind_54 rfl ⟨by rw [rR_bind, if_neg h2, if_neg h3, if_neg h9, if_pos h10, if_pos h12], by rw [rR_bind, if_neg h2, if_neg h3, if_neg h9, if_pos h10, if_pos h12]⟩
          · refine ev_bipush (v := iI (-2)) (q := 41) dR_bind_39 (by decide) rfl ?_
            exact zr_iret dR_bind_41 rfl ⟨by rw [rR_bind, if_neg h2, if_neg h3, if_neg h9, if_pos h10, if_neg h12], by rw [rR_bind, if_neg h2, if_neg h3, if_neg h9, if_pos h10, if_neg h12]⟩
        · refine ev_iconst (v := iI (-1)) (q := 29) dR_bind_28 rfl rfl ?_
          exact zr_iret dR_bind_29 rfl ⟨by rw [rR_bind, if_neg h2, if_neg h3, if_neg h9, if_neg (fun z => z h10)], by rw [rR_bind, if_neg h2, if_neg h3, if_neg h9, if_neg (fun z => z h10)]⟩
set_option maxRecDepth 100000 in
set_option maxHeartbeats 4000000 in
theorem wR_bind {ρ : z_Sg} (hw : z_wf ρ) (t o p : Int) (hp0 : z_rg t) (hp1 : z_rg o) (hp2 : z_rg p) : z_wf (rR_bind ρ t o p).2 := by
  rw [rR_bind]
  have g1 : (rR_isState ρ t o) = 0 ∨ (rR_isState ρ t o) = 1 := bR_isState _ _ _
  by_cases h2 : (rR_isState ρ t o) = 0
  · rw [if_pos h2]
    exact hw
  · rw [if_neg h2]
    have f15 := tR_isState hw h2
    by_cases h3 : p = (-1)
    · rw [if_pos h3]
      by_cases h4 : p ≠ o
      · rw [if_pos h4]
        have g5 : 0 ≤ ρ 5 t ∧ ρ 5 t ≤ 9 := hw 5 t (by decide)
        by_cases h6 : (ρ 5 t) = 0
        · rw [if_pos h6]
          have hw7 : z_wf (z_up ρ 16 ((4 * t) + o) p) := z_wf_up hw (show (-1 : Int) ≤ p by omega) (show p ≤ (3 : Int) by omega)
          exact hw7
        · rw [if_neg h6]
          exact hw
      · rw [if_neg h4]
        exact hw
    · rw [if_neg h3]
      have g8 : (rR_isState ρ t p) = 0 ∨ (rR_isState ρ t p) = 1 := bR_isState _ _ _
      by_cases h9 : (rR_isState ρ t p) = 0
      · rw [if_pos h9]
        exact hw
      · rw [if_neg h9]
        have f14 := tR_isState hw h9
        by_cases h10 : p ≠ o
        · rw [if_pos h10]
          have g11 : 0 ≤ ρ 5 t ∧ ρ 5 t ≤ 9 := hw 5 t (by decide)
          by_cases h12 : (ρ 5 t) = 0
          · rw [if_pos h12]
            have hw13 : z_wf (z_up ρ 16 ((4 * t) + o) p) := z_wf_up hw (show (-1 : Int) ≤ p by omega) (show p ≤ (3 : Int) by omega)
            exact hw13
          · rw [if_neg h12]
            exact hw
        · rw [if_neg h10]
          exact hw
end
