-- words of the tables, by their places (written by wip/whole/mknames.py)
theorem wzW : Cond.initialized "NotaryHallLaw" ∈ z_ws := z_in (i := 56) (by decide +kernel) rfl
theorem wzH : Cond.initialized "NotaryHall" ∈ z_ws := z_in (i := 57) (by decide +kernel) rfl
theorem wzN : Cond.initialized "NotaryHall$Node" ∈ z_ws := z_in (i := 58) (by decide +kernel) rfl
theorem wzB : Cond.initialized "NotaryHall$Mailbox" ∈ z_ws := z_in (i := 59) (by decide +kernel) rfl
theorem wzJA : Cond.initialized "java/util/Arrays" ∈ z_ws := z_in (i := 60) (by decide +kernel) rfl
theorem wzR : Cond.initialized "NotaryHallModel" ∈ z_ws := z_in (i := 61) (by decide +kernel) rfl
theorem wzT : Cond.initialized "NotaryHall$Transaction" ∈ z_ws := z_in (i := 62) (by decide +kernel) rfl
theorem wzL : Cond.initialized "NotaryHall$StateList" ∈ z_ws := z_in (i := 63) (by decide +kernel) rfl
theorem wzS : Cond.initialized "NotaryHall$State" ∈ z_ws := z_in (i := 64) (by decide +kernel) rfl
theorem wzJM : Cond.initialized "java/lang/Math" ∈ z_ws := z_in (i := 65) (by decide +kernel) rfl
theorem wzJI : Cond.initialized "java/lang/Integer" ∈ z_ws := z_in (i := 66) (by decide +kernel) rfl
theorem wcW_7 : Cond.classLink "NotaryHallLaw" 7 "NotaryHall" ∈ z_ws := z_in (i := 67) (by decide +kernel) rfl
theorem wqH : Cond.instantiable "NotaryHall" 8 ∈ z_ws := z_in (i := 68) (by decide +kernel) rfl
theorem wmW_9 : Cond.methodLink "NotaryHallLaw" 9 ⟨"NotaryHall", "<init>", "()V"⟩ ∈ z_ws := z_in (i := 69) (by decide +kernel) rfl
theorem wiH_init : Cond.instanceMethod ⟨"NotaryHall", "<init>", "()V"⟩ ∈ z_ws := z_in (i := 70) (by decide +kernel) rfl
theorem wmH_3 : Cond.methodLink "NotaryHall" 3 ⟨"java/lang/Object", "<init>", "()V"⟩ ∈ z_ws := z_in (i := 72) (by decide +kernel) rfl
theorem wiJO_init : Cond.instanceMethod ⟨"java/lang/Object", "<init>", "()V"⟩ ∈ z_ws := z_in (i := 73) (by decide +kernel) rfl
theorem wcH_9 : Cond.classLink "NotaryHall" 9 "NotaryHall$Transaction" ∈ z_ws := z_in (i := 75) (by decide +kernel) rfl
theorem wcH_15 : Cond.classLink "NotaryHall" 15 "NotaryHall$Node" ∈ z_ws := z_in (i := 77) (by decide +kernel) rfl
theorem wqN : Cond.instantiable "NotaryHall$Node" 4 ∈ z_ws := z_in (i := 79) (by decide +kernel) rfl
theorem wmH_21 : Cond.methodLink "NotaryHall" 21 ⟨"NotaryHall$Node", "<init>", "()V"⟩ ∈ z_ws := z_in (i := 80) (by decide +kernel) rfl
theorem wiN_init : Cond.instanceMethod ⟨"NotaryHall$Node", "<init>", "()V"⟩ ∈ z_ws := z_in (i := 81) (by decide +kernel) rfl
theorem wmN_3 : Cond.methodLink "NotaryHall$Node" 3 ⟨"java/lang/Object", "<init>", "()V"⟩ ∈ z_ws := z_in (i := 83) (by decide +kernel) rfl
theorem wtH_bit : Cond.static ⟨"NotaryHall", "bit", "(I)I"⟩ ∈ z_ws := z_in (i := 85) (by decide +kernel) rfl
theorem wfN_22 : Cond.fieldLink "NotaryHall$Node" 22 "NotaryHall$Node" "known" "I" ∈ z_ws := z_in (i := 87) (by decide +kernel) rfl
theorem wfH_74 : Cond.fieldLink "NotaryHall" 74 "NotaryHall$Node" "known" "I" ∈ z_ws := z_in (i := 88) (by decide +kernel) rfl
theorem wfN_30 : Cond.fieldLink "NotaryHall$Node" 30 "NotaryHall$Node" "recorded" "I" ∈ z_ws := z_in (i := 89) (by decide +kernel) rfl
theorem wfH_199 : Cond.fieldLink "NotaryHall" 199 "NotaryHall$Node" "recorded" "I" ∈ z_ws := z_in (i := 90) (by decide +kernel) rfl
theorem wfN_19 : Cond.fieldLink "NotaryHall$Node" 19 "NotaryHall$Node" "fetchedCount" "I" ∈ z_ws := z_in (i := 91) (by decide +kernel) rfl
theorem wfH_209 : Cond.fieldLink "NotaryHall" 209 "NotaryHall$Node" "fetchedCount" "I" ∈ z_ws := z_in (i := 92) (by decide +kernel) rfl
theorem wfN_13 : Cond.fieldLink "NotaryHall$Node" 13 "NotaryHall$Node" "consents" "I" ∈ z_ws := z_in (i := 93) (by decide +kernel) rfl
theorem wfH_183 : Cond.fieldLink "NotaryHall" 183 "NotaryHall$Node" "consents" "I" ∈ z_ws := z_in (i := 94) (by decide +kernel) rfl
theorem wcH_22 : Cond.classLink "NotaryHall" 22 "NotaryHall$Mailbox" ∈ z_ws := z_in (i := 104) (by decide +kernel) rfl
theorem wqB : Cond.instantiable "NotaryHall$Mailbox" 2 ∈ z_ws := z_in (i := 105) (by decide +kernel) rfl
theorem wmH_24 : Cond.methodLink "NotaryHall" 24 ⟨"NotaryHall$Mailbox", "<init>", "()V"⟩ ∈ z_ws := z_in (i := 106) (by decide +kernel) rfl
theorem wiB_init : Cond.instanceMethod ⟨"NotaryHall$Mailbox", "<init>", "()V"⟩ ∈ z_ws := z_in (i := 107) (by decide +kernel) rfl
theorem wmB_3 : Cond.methodLink "NotaryHall$Mailbox" 3 ⟨"java/lang/Object", "<init>", "()V"⟩ ∈ z_ws := z_in (i := 109) (by decide +kernel) rfl
theorem wfB_9 : Cond.fieldLink "NotaryHall$Mailbox" 9 "NotaryHall$Mailbox" "codes" "[I" ∈ z_ws := z_in (i := 110) (by decide +kernel) rfl
theorem wfH_166 : Cond.fieldLink "NotaryHall" 166 "NotaryHall$Mailbox" "codes" "[I" ∈ z_ws := z_in (i := 111) (by decide +kernel) rfl
theorem wfB_15 : Cond.fieldLink "NotaryHall$Mailbox" 15 "NotaryHall$Mailbox" "count" "I" ∈ z_ws := z_in (i := 112) (by decide +kernel) rfl
theorem wfH_177 : Cond.fieldLink "NotaryHall" 177 "NotaryHall$Mailbox" "count" "I" ∈ z_ws := z_in (i := 113) (by decide +kernel) rfl
theorem wa_int : Cond.arrayClass .int ∈ z_ws := z_in (i := 119) (by decide +kernel) rfl
theorem wmH_33 : Cond.methodLink "NotaryHall" 33 ⟨"java/util/Arrays", "fill", "([II)V"⟩ ∈ z_ws := z_in (i := 120) (by decide +kernel) rfl
theorem wtJA_fill : Cond.static ⟨"java/util/Arrays", "fill", "([II)V"⟩ ∈ z_ws := z_in (i := 121) (by decide +kernel) rfl
theorem wfH_11 : Cond.fieldLink "NotaryHall" 11 "NotaryHall" "transactions" "[LNotaryHall$Transaction;" ∈ z_ws := z_in (i := 123) (by decide +kernel) rfl
theorem wfH_53 : Cond.fieldLink "NotaryHall" 53 "NotaryHall" "transactionCount" "I" ∈ z_ws := z_in (i := 124) (by decide +kernel) rfl
theorem wfH_17 : Cond.fieldLink "NotaryHall" 17 "NotaryHall" "nodes" "[LNotaryHall$Node;" ∈ z_ws := z_in (i := 125) (by decide +kernel) rfl
theorem wfH_25 : Cond.fieldLink "NotaryHall" 25 "NotaryHall" "mailbox" "LNotaryHall$Mailbox;" ∈ z_ws := z_in (i := 126) (by decide +kernel) rfl
theorem wfH_29 : Cond.fieldLink "NotaryHall" 29 "NotaryHall" "spenders" "[I" ∈ z_ws := z_in (i := 127) (by decide +kernel) rfl
theorem wfH_39 : Cond.fieldLink "NotaryHall" 39 "NotaryHall" "coins" "[I" ∈ z_ws := z_in (i := 128) (by decide +kernel) rfl
theorem wfH_42 : Cond.fieldLink "NotaryHall" 42 "NotaryHall" "treeRow" "[I" ∈ z_ws := z_in (i := 129) (by decide +kernel) rfl
theorem wfH_180 : Cond.fieldLink "NotaryHall" 180 "NotaryHall" "clock" "I" ∈ z_ws := z_in (i := 130) (by decide +kernel) rfl
theorem wmW_13 : Cond.methodLink "NotaryHallLaw" 13 ⟨"NotaryHall", "begin", "(IIII)I"⟩ ∈ z_ws := z_in (i := 148) (by decide +kernel) rfl
theorem wiH_begin : Cond.instanceMethod ⟨"NotaryHall", "begin", "(IIII)I"⟩ ∈ z_ws := z_in (i := 149) (by decide +kernel) rfl
theorem wvH_begin : Cond.selects "NotaryHall" ⟨"NotaryHall", "begin", "(IIII)I"⟩ ⟨"NotaryHall", "begin", "(IIII)I"⟩ ∈ z_ws := z_in (i := 150) (by decide +kernel) rfl
theorem wmH_45 : Cond.methodLink "NotaryHall" 45 ⟨"NotaryHall", "isNode", "(I)Z"⟩ ∈ z_ws := z_in (i := 152) (by decide +kernel) rfl
theorem wtH_isNode : Cond.static ⟨"NotaryHall", "isNode", "(I)Z"⟩ ∈ z_ws := z_in (i := 153) (by decide +kernel) rfl
theorem wmH_49 : Cond.methodLink "NotaryHall" 49 ⟨"NotaryHall", "isNotary", "(I)Z"⟩ ∈ z_ws := z_in (i := 155) (by decide +kernel) rfl
theorem wtH_isNotary : Cond.static ⟨"NotaryHall", "isNotary", "(I)Z"⟩ ∈ z_ws := z_in (i := 156) (by decide +kernel) rfl
theorem wkH_52 : Cond.constant "NotaryHall" 52 1000000 ∈ z_ws := z_in (i := 158) (by decide +kernel) rfl
theorem wqT : Cond.instantiable "NotaryHall$Transaction" 15 ∈ z_ws := z_in (i := 159) (by decide +kernel) rfl
theorem wmH_57 : Cond.methodLink "NotaryHall" 57 ⟨"NotaryHall$Transaction", "<init>", "(IIIII)V"⟩ ∈ z_ws := z_in (i := 160) (by decide +kernel) rfl
theorem wiT_init : Cond.instanceMethod ⟨"NotaryHall$Transaction", "<init>", "(IIIII)V"⟩ ∈ z_ws := z_in (i := 161) (by decide +kernel) rfl
theorem wmT_3 : Cond.methodLink "NotaryHall$Transaction" 3 ⟨"java/lang/Object", "<init>", "()V"⟩ ∈ z_ws := z_in (i := 163) (by decide +kernel) rfl
theorem wcT_27 : Cond.classLink "NotaryHall$Transaction" 27 "NotaryHall$StateList" ∈ z_ws := z_in (i := 164) (by decide +kernel) rfl
theorem wqL : Cond.instantiable "NotaryHall$StateList" 2 ∈ z_ws := z_in (i := 165) (by decide +kernel) rfl
theorem wmT_29 : Cond.methodLink "NotaryHall$Transaction" 29 ⟨"NotaryHall$StateList", "<init>", "()V"⟩ ∈ z_ws := z_in (i := 166) (by decide +kernel) rfl
theorem wiL_init : Cond.instanceMethod ⟨"NotaryHall$StateList", "<init>", "()V"⟩ ∈ z_ws := z_in (i := 167) (by decide +kernel) rfl
theorem wmL_3 : Cond.methodLink "NotaryHall$StateList" 3 ⟨"java/lang/Object", "<init>", "()V"⟩ ∈ z_ws := z_in (i := 169) (by decide +kernel) rfl
theorem wcL_9 : Cond.classLink "NotaryHall$StateList" 9 "NotaryHall$State" ∈ z_ws := z_in (i := 170) (by decide +kernel) rfl
theorem wfL_11 : Cond.fieldLink "NotaryHall$StateList" 11 "NotaryHall$StateList" "states" "[LNotaryHall$State;" ∈ z_ws := z_in (i := 172) (by decide +kernel) rfl
theorem wfT_93 : Cond.fieldLink "NotaryHall$Transaction" 93 "NotaryHall$StateList" "states" "[LNotaryHall$State;" ∈ z_ws := z_in (i := 173) (by decide +kernel) rfl
theorem wfH_300 : Cond.fieldLink "NotaryHall" 300 "NotaryHall$StateList" "states" "[LNotaryHall$State;" ∈ z_ws := z_in (i := 174) (by decide +kernel) rfl
theorem wfL_17 : Cond.fieldLink "NotaryHall$StateList" 17 "NotaryHall$StateList" "count" "I" ∈ z_ws := z_in (i := 175) (by decide +kernel) rfl
theorem wfT_56 : Cond.fieldLink "NotaryHall$Transaction" 56 "NotaryHall$StateList" "count" "I" ∈ z_ws := z_in (i := 176) (by decide +kernel) rfl
theorem wfH_299 : Cond.fieldLink "NotaryHall" 299 "NotaryHall$StateList" "count" "I" ∈ z_ws := z_in (i := 177) (by decide +kernel) rfl
theorem wfT_9 : Cond.fieldLink "NotaryHall$Transaction" 9 "NotaryHall$Transaction" "number" "I" ∈ z_ws := z_in (i := 183) (by decide +kernel) rfl
theorem wfH_281 : Cond.fieldLink "NotaryHall" 281 "NotaryHall$Transaction" "number" "I" ∈ z_ws := z_in (i := 184) (by decide +kernel) rfl
theorem wfT_15 : Cond.fieldLink "NotaryHall$Transaction" 15 "NotaryHall$Transaction" "initiator" "I" ∈ z_ws := z_in (i := 185) (by decide +kernel) rfl
theorem wfH_71 : Cond.fieldLink "NotaryHall" 71 "NotaryHall$Transaction" "initiator" "I" ∈ z_ws := z_in (i := 186) (by decide +kernel) rfl
theorem wfT_18 : Cond.fieldLink "NotaryHall$Transaction" 18 "NotaryHall$Transaction" "notary" "I" ∈ z_ws := z_in (i := 187) (by decide +kernel) rfl
theorem wfH_81 : Cond.fieldLink "NotaryHall" 81 "NotaryHall$Transaction" "notary" "I" ∈ z_ws := z_in (i := 188) (by decide +kernel) rfl
theorem wfT_21 : Cond.fieldLink "NotaryHall$Transaction" 21 "NotaryHall$Transaction" "from" "I" ∈ z_ws := z_in (i := 189) (by decide +kernel) rfl
theorem wfH_289 : Cond.fieldLink "NotaryHall" 289 "NotaryHall$Transaction" "from" "I" ∈ z_ws := z_in (i := 190) (by decide +kernel) rfl
theorem wfT_24 : Cond.fieldLink "NotaryHall$Transaction" 24 "NotaryHall$Transaction" "until" "I" ∈ z_ws := z_in (i := 191) (by decide +kernel) rfl
theorem wfH_292 : Cond.fieldLink "NotaryHall" 292 "NotaryHall$Transaction" "until" "I" ∈ z_ws := z_in (i := 192) (by decide +kernel) rfl
theorem wfT_30 : Cond.fieldLink "NotaryHall$Transaction" 30 "NotaryHall$Transaction" "inputs" "LNotaryHall$StateList;" ∈ z_ws := z_in (i := 193) (by decide +kernel) rfl
theorem wfH_84 : Cond.fieldLink "NotaryHall" 84 "NotaryHall$Transaction" "inputs" "LNotaryHall$StateList;" ∈ z_ws := z_in (i := 194) (by decide +kernel) rfl
theorem wfT_34 : Cond.fieldLink "NotaryHall$Transaction" 34 "NotaryHall$Transaction" "outputs" "LNotaryHall$StateList;" ∈ z_ws := z_in (i := 195) (by decide +kernel) rfl
theorem wfH_112 : Cond.fieldLink "NotaryHall" 112 "NotaryHall$Transaction" "outputs" "LNotaryHall$StateList;" ∈ z_ws := z_in (i := 196) (by decide +kernel) rfl
theorem wfT_43 : Cond.fieldLink "NotaryHall$Transaction" 43 "NotaryHall$Transaction" "ancestors" "I" ∈ z_ws := z_in (i := 197) (by decide +kernel) rfl
theorem wfH_258 : Cond.fieldLink "NotaryHall" 258 "NotaryHall$Transaction" "ancestors" "I" ∈ z_ws := z_in (i := 198) (by decide +kernel) rfl
theorem wfT_37 : Cond.fieldLink "NotaryHall$Transaction" 37 "NotaryHall$Transaction" "stage" "I" ∈ z_ws := z_in (i := 199) (by decide +kernel) rfl
theorem wfH_68 : Cond.fieldLink "NotaryHall" 68 "NotaryHall$Transaction" "stage" "I" ∈ z_ws := z_in (i := 200) (by decide +kernel) rfl
theorem wfT_79 : Cond.fieldLink "NotaryHall$Transaction" 79 "NotaryHall$Transaction" "needed" "I" ∈ z_ws := z_in (i := 201) (by decide +kernel) rfl
theorem wfH_156 : Cond.fieldLink "NotaryHall" 156 "NotaryHall$Transaction" "needed" "I" ∈ z_ws := z_in (i := 202) (by decide +kernel) rfl
theorem wfT_89 : Cond.fieldLink "NotaryHall$Transaction" 89 "NotaryHall$Transaction" "sound" "Z" ∈ z_ws := z_in (i := 203) (by decide +kernel) rfl
theorem wfH_282 : Cond.fieldLink "NotaryHall" 282 "NotaryHall$Transaction" "sound" "Z" ∈ z_ws := z_in (i := 204) (by decide +kernel) rfl
theorem wfT_72 : Cond.fieldLink "NotaryHall$Transaction" 72 "NotaryHall$Transaction" "signed" "I" ∈ z_ws := z_in (i := 205) (by decide +kernel) rfl
theorem wfH_193 : Cond.fieldLink "NotaryHall" 193 "NotaryHall$Transaction" "signed" "I" ∈ z_ws := z_in (i := 206) (by decide +kernel) rfl
theorem wfT_62 : Cond.fieldLink "NotaryHall$Transaction" 62 "NotaryHall$Transaction" "decided" "I" ∈ z_ws := z_in (i := 207) (by decide +kernel) rfl
theorem wfT_69 : Cond.fieldLink "NotaryHall$Transaction" 69 "NotaryHall$Transaction" "agreed" "I" ∈ z_ws := z_in (i := 208) (by decide +kernel) rfl
theorem wfH_255 : Cond.fieldLink "NotaryHall" 255 "NotaryHall$Transaction" "agreed" "I" ∈ z_ws := z_in (i := 209) (by decide +kernel) rfl
theorem wfT_40 : Cond.fieldLink "NotaryHall$Transaction" 40 "NotaryHall$Transaction" "verdict" "I" ∈ z_ws := z_in (i := 210) (by decide +kernel) rfl
theorem wfH_196 : Cond.fieldLink "NotaryHall" 196 "NotaryHall$Transaction" "verdict" "I" ∈ z_ws := z_in (i := 211) (by decide +kernel) rfl
theorem wmW_18 : Cond.methodLink "NotaryHallLaw" 18 ⟨"NotaryHall", "consume", "(III)I"⟩ ∈ z_ws := z_in (i := 243) (by decide +kernel) rfl
theorem wiH_consume : Cond.instanceMethod ⟨"NotaryHall", "consume", "(III)I"⟩ ∈ z_ws := z_in (i := 244) (by decide +kernel) rfl
theorem wvH_consume : Cond.selects "NotaryHall" ⟨"NotaryHall", "consume", "(III)I"⟩ ⟨"NotaryHall", "consume", "(III)I"⟩ ∈ z_ws := z_in (i := 245) (by decide +kernel) rfl
theorem wmH_60 : Cond.methodLink "NotaryHall" 60 ⟨"NotaryHall", "find", "(I)LNotaryHall$Transaction;"⟩ ∈ z_ws := z_in (i := 247) (by decide +kernel) rfl
theorem wiH_find : Cond.instanceMethod ⟨"NotaryHall", "find", "(I)LNotaryHall$Transaction;"⟩ ∈ z_ws := z_in (i := 249) (by decide +kernel) rfl
theorem wmH_64 : Cond.methodLink "NotaryHall" 64 ⟨"NotaryHall", "findState", "(II)LNotaryHall$State;"⟩ ∈ z_ws := z_in (i := 251) (by decide +kernel) rfl
theorem wiH_findState : Cond.instanceMethod ⟨"NotaryHall", "findState", "(II)LNotaryHall$State;"⟩ ∈ z_ws := z_in (i := 253) (by decide +kernel) rfl
theorem wmH_77 : Cond.methodLink "NotaryHall" 77 ⟨"NotaryHall", "has", "(II)Z"⟩ ∈ z_ws := z_in (i := 255) (by decide +kernel) rfl
theorem wtH_has : Cond.static ⟨"NotaryHall", "has", "(II)Z"⟩ ∈ z_ws := z_in (i := 256) (by decide +kernel) rfl
theorem wmH_186 : Cond.methodLink "NotaryHall" 186 ⟨"NotaryHall", "bit", "(I)I"⟩ ∈ z_ws := z_in (i := 258) (by decide +kernel) rfl
theorem wmH_93 : Cond.methodLink "NotaryHall" 93 ⟨"NotaryHall$StateList", "holds", "(I)Z"⟩ ∈ z_ws := z_in (i := 259) (by decide +kernel) rfl
theorem wiL_holds : Cond.instanceMethod ⟨"NotaryHall$StateList", "holds", "(I)Z"⟩ ∈ z_ws := z_in (i := 260) (by decide +kernel) rfl
theorem wvL_holds : Cond.selects "NotaryHall$StateList" ⟨"NotaryHall$StateList", "holds", "(I)Z"⟩ ⟨"NotaryHall$StateList", "holds", "(I)Z"⟩ ∈ z_ws := z_in (i := 261) (by decide +kernel) rfl
theorem wmH_98 : Cond.methodLink "NotaryHall" 98 ⟨"NotaryHall$StateList", "hasRoomFor", "(I)Z"⟩ ∈ z_ws := z_in (i := 263) (by decide +kernel) rfl
theorem wiL_hasRoomFor : Cond.instanceMethod ⟨"NotaryHall$StateList", "hasRoomFor", "(I)Z"⟩ ∈ z_ws := z_in (i := 264) (by decide +kernel) rfl
theorem wvL_hasRoomFor : Cond.selects "NotaryHall$StateList" ⟨"NotaryHall$StateList", "hasRoomFor", "(I)Z"⟩ ⟨"NotaryHall$StateList", "hasRoomFor", "(I)Z"⟩ ∈ z_ws := z_in (i := 265) (by decide +kernel) rfl
theorem wmH_101 : Cond.methodLink "NotaryHall" 101 ⟨"NotaryHall$Transaction", "addInput", "(LNotaryHall$State;LNotaryHall$Transaction;)I"⟩ ∈ z_ws := z_in (i := 267) (by decide +kernel) rfl
theorem wiT_addInput : Cond.instanceMethod ⟨"NotaryHall$Transaction", "addInput", "(LNotaryHall$State;LNotaryHall$Transaction;)I"⟩ ∈ z_ws := z_in (i := 268) (by decide +kernel) rfl
theorem wvT_addInput : Cond.selects "NotaryHall$Transaction" ⟨"NotaryHall$Transaction", "addInput", "(LNotaryHall$State;LNotaryHall$Transaction;)I"⟩ ⟨"NotaryHall$Transaction", "addInput", "(LNotaryHall$State;LNotaryHall$Transaction;)I"⟩ ∈ z_ws := z_in (i := 269) (by decide +kernel) rfl
theorem wmT_50 : Cond.methodLink "NotaryHall$Transaction" 50 ⟨"NotaryHall$StateList", "add", "(LNotaryHall$State;)I"⟩ ∈ z_ws := z_in (i := 272) (by decide +kernel) rfl
theorem wiL_add : Cond.instanceMethod ⟨"NotaryHall$StateList", "add", "(LNotaryHall$State;)I"⟩ ∈ z_ws := z_in (i := 273) (by decide +kernel) rfl
theorem wvL_add : Cond.selects "NotaryHall$StateList" ⟨"NotaryHall$StateList", "add", "(LNotaryHall$State;)I"⟩ ⟨"NotaryHall$StateList", "add", "(LNotaryHall$State;)I"⟩ ∈ z_ws := z_in (i := 274) (by decide +kernel) rfl
theorem wmW_23 : Cond.methodLink "NotaryHallLaw" 23 ⟨"NotaryHall", "produce", "(IIIII)I"⟩ ∈ z_ws := z_in (i := 276) (by decide +kernel) rfl
theorem wiH_produce : Cond.instanceMethod ⟨"NotaryHall", "produce", "(IIIII)I"⟩ ∈ z_ws := z_in (i := 277) (by decide +kernel) rfl
theorem wvH_produce : Cond.selects "NotaryHall" ⟨"NotaryHall", "produce", "(IIIII)I"⟩ ⟨"NotaryHall", "produce", "(IIIII)I"⟩ ∈ z_ws := z_in (i := 278) (by decide +kernel) rfl
theorem wmH_105 : Cond.methodLink "NotaryHall" 105 ⟨"NotaryHall", "isContent", "(III)Z"⟩ ∈ z_ws := z_in (i := 280) (by decide +kernel) rfl
theorem wtH_isContent : Cond.static ⟨"NotaryHall", "isContent", "(III)Z"⟩ ∈ z_ws := z_in (i := 281) (by decide +kernel) rfl
theorem wmH_109 : Cond.methodLink "NotaryHall" 109 ⟨"NotaryHall", "isAmount", "(I)Z"⟩ ∈ z_ws := z_in (i := 283) (by decide +kernel) rfl
theorem wtH_isAmount : Cond.static ⟨"NotaryHall", "isAmount", "(I)Z"⟩ ∈ z_ws := z_in (i := 284) (by decide +kernel) rfl
theorem wmH_115 : Cond.methodLink "NotaryHall" 115 ⟨"NotaryHall$Transaction", "addOutput", "(IIII)I"⟩ ∈ z_ws := z_in (i := 286) (by decide +kernel) rfl
theorem wiT_addOutput : Cond.instanceMethod ⟨"NotaryHall$Transaction", "addOutput", "(IIII)I"⟩ ∈ z_ws := z_in (i := 287) (by decide +kernel) rfl
theorem wvT_addOutput : Cond.selects "NotaryHall$Transaction" ⟨"NotaryHall$Transaction", "addOutput", "(IIII)I"⟩ ⟨"NotaryHall$Transaction", "addOutput", "(IIII)I"⟩ ∈ z_ws := z_in (i := 288) (by decide +kernel) rfl
theorem wcT_54 : Cond.classLink "NotaryHall$Transaction" 54 "NotaryHall$State" ∈ z_ws := z_in (i := 290) (by decide +kernel) rfl
theorem wqS : Cond.instantiable "NotaryHall$State" 6 ∈ z_ws := z_in (i := 291) (by decide +kernel) rfl
theorem wmT_59 : Cond.methodLink "NotaryHall$Transaction" 59 ⟨"NotaryHall$State", "<init>", "(IIIII)V"⟩ ∈ z_ws := z_in (i := 292) (by decide +kernel) rfl
theorem wiS_init : Cond.instanceMethod ⟨"NotaryHall$State", "<init>", "(IIIII)V"⟩ ∈ z_ws := z_in (i := 293) (by decide +kernel) rfl
theorem wmS_3 : Cond.methodLink "NotaryHall$State" 3 ⟨"java/lang/Object", "<init>", "()V"⟩ ∈ z_ws := z_in (i := 295) (by decide +kernel) rfl
theorem wfS_9 : Cond.fieldLink "NotaryHall$State" 9 "NotaryHall$State" "number" "I" ∈ z_ws := z_in (i := 296) (by decide +kernel) rfl
theorem wfH_88 : Cond.fieldLink "NotaryHall" 88 "NotaryHall$State" "number" "I" ∈ z_ws := z_in (i := 297) (by decide +kernel) rfl
theorem wfL_21 : Cond.fieldLink "NotaryHall$StateList" 21 "NotaryHall$State" "number" "I" ∈ z_ws := z_in (i := 298) (by decide +kernel) rfl
theorem wfT_153 : Cond.fieldLink "NotaryHall$Transaction" 153 "NotaryHall$State" "number" "I" ∈ z_ws := z_in (i := 299) (by decide +kernel) rfl
theorem wfS_15 : Cond.fieldLink "NotaryHall$State" 15 "NotaryHall$State" "kind" "I" ∈ z_ws := z_in (i := 300) (by decide +kernel) rfl
theorem wfT_111 : Cond.fieldLink "NotaryHall$Transaction" 111 "NotaryHall$State" "kind" "I" ∈ z_ws := z_in (i := 301) (by decide +kernel) rfl
theorem wfS_18 : Cond.fieldLink "NotaryHall$State" 18 "NotaryHall$State" "a" "I" ∈ z_ws := z_in (i := 302) (by decide +kernel) rfl
theorem wfS_21 : Cond.fieldLink "NotaryHall$State" 21 "NotaryHall$State" "b" "I" ∈ z_ws := z_in (i := 303) (by decide +kernel) rfl
theorem wfS_24 : Cond.fieldLink "NotaryHall$State" 24 "NotaryHall$State" "amount" "I" ∈ z_ws := z_in (i := 304) (by decide +kernel) rfl
theorem wfL_31 : Cond.fieldLink "NotaryHall$StateList" 31 "NotaryHall$State" "amount" "I" ∈ z_ws := z_in (i := 305) (by decide +kernel) rfl
theorem wfH_134 : Cond.fieldLink "NotaryHall" 134 "NotaryHall$State" "amount" "I" ∈ z_ws := z_in (i := 306) (by decide +kernel) rfl
theorem wfT_114 : Cond.fieldLink "NotaryHall$Transaction" 114 "NotaryHall$State" "amount" "I" ∈ z_ws := z_in (i := 307) (by decide +kernel) rfl
theorem wfS_27 : Cond.fieldLink "NotaryHall$State" 27 "NotaryHall$State" "boundTo" "I" ∈ z_ws := z_in (i := 308) (by decide +kernel) rfl
theorem wfH_119 : Cond.fieldLink "NotaryHall" 119 "NotaryHall$State" "boundTo" "I" ∈ z_ws := z_in (i := 309) (by decide +kernel) rfl
theorem wmW_28 : Cond.methodLink "NotaryHallLaw" 28 ⟨"NotaryHall", "bind", "(III)I"⟩ ∈ z_ws := z_in (i := 323) (by decide +kernel) rfl
theorem wiH_bind : Cond.instanceMethod ⟨"NotaryHall", "bind", "(III)I"⟩ ∈ z_ws := z_in (i := 324) (by decide +kernel) rfl
theorem wvH_bind : Cond.selects "NotaryHall" ⟨"NotaryHall", "bind", "(III)I"⟩ ⟨"NotaryHall", "bind", "(III)I"⟩ ∈ z_ws := z_in (i := 325) (by decide +kernel) rfl
theorem wmW_32 : Cond.methodLink "NotaryHallLaw" 32 ⟨"NotaryHall", "pay", "(IIII)I"⟩ ∈ z_ws := z_in (i := 327) (by decide +kernel) rfl
theorem wiH_pay : Cond.instanceMethod ⟨"NotaryHall", "pay", "(IIII)I"⟩ ∈ z_ws := z_in (i := 328) (by decide +kernel) rfl
theorem wvH_pay : Cond.selects "NotaryHall" ⟨"NotaryHall", "pay", "(IIII)I"⟩ ⟨"NotaryHall", "pay", "(IIII)I"⟩ ∈ z_ws := z_in (i := 329) (by decide +kernel) rfl
theorem wmH_122 : Cond.methodLink "NotaryHall" 122 ⟨"NotaryHall", "stateNumbersEnd", "()I"⟩ ∈ z_ws := z_in (i := 331) (by decide +kernel) rfl
theorem wiH_stateNumbersEnd : Cond.instanceMethod ⟨"NotaryHall", "stateNumbersEnd", "()I"⟩ ∈ z_ws := z_in (i := 333) (by decide +kernel) rfl
theorem wmH_126 : Cond.methodLink "NotaryHall" 126 ⟨"NotaryHall", "stateNumbered", "(I)LNotaryHall$State;"⟩ ∈ z_ws := z_in (i := 335) (by decide +kernel) rfl
theorem wiH_stateNumbered : Cond.instanceMethod ⟨"NotaryHall", "stateNumbered", "(I)LNotaryHall$State;"⟩ ∈ z_ws := z_in (i := 337) (by decide +kernel) rfl
theorem wmH_130 : Cond.methodLink "NotaryHall" 130 ⟨"NotaryHall", "isCoin", "(LNotaryHall$State;ILNotaryHall$Transaction;)Z"⟩ ∈ z_ws := z_in (i := 339) (by decide +kernel) rfl
theorem wiH_isCoin : Cond.instanceMethod ⟨"NotaryHall", "isCoin", "(LNotaryHall$State;ILNotaryHall$Transaction;)Z"⟩ ∈ z_ws := z_in (i := 341) (by decide +kernel) rfl
theorem wmH_206 : Cond.methodLink "NotaryHall" 206 ⟨"NotaryHall$State", "isCashIssuedBy", "(I)Z"⟩ ∈ z_ws := z_in (i := 343) (by decide +kernel) rfl
theorem wiS_isCashIssuedBy : Cond.instanceMethod ⟨"NotaryHall$State", "isCashIssuedBy", "(I)Z"⟩ ∈ z_ws := z_in (i := 344) (by decide +kernel) rfl
theorem wvS_isCashIssuedBy : Cond.selects "NotaryHall$State" ⟨"NotaryHall$State", "isCashIssuedBy", "(I)Z"⟩ ⟨"NotaryHall$State", "isCashIssuedBy", "(I)Z"⟩ ∈ z_ws := z_in (i := 345) (by decide +kernel) rfl
theorem wmH_323 : Cond.methodLink "NotaryHall" 323 ⟨"NotaryHall$State", "isBound", "()Z"⟩ ∈ z_ws := z_in (i := 347) (by decide +kernel) rfl
theorem wiS_isBound : Cond.instanceMethod ⟨"NotaryHall$State", "isBound", "()Z"⟩ ∈ z_ws := z_in (i := 348) (by decide +kernel) rfl
theorem wvS_isBound : Cond.selects "NotaryHall$State" ⟨"NotaryHall$State", "isBound", "()Z"⟩ ⟨"NotaryHall$State", "isBound", "()Z"⟩ ∈ z_ws := z_in (i := 349) (by decide +kernel) rfl
theorem wmH_311 : Cond.methodLink "NotaryHall" 311 ⟨"NotaryHall$State", "source", "()I"⟩ ∈ z_ws := z_in (i := 351) (by decide +kernel) rfl
theorem wiS_source : Cond.instanceMethod ⟨"NotaryHall$State", "source", "()I"⟩ ∈ z_ws := z_in (i := 352) (by decide +kernel) rfl
theorem wvS_source : Cond.selects "NotaryHall$State" ⟨"NotaryHall$State", "source", "()I"⟩ ⟨"NotaryHall$State", "source", "()I"⟩ ∈ z_ws := z_in (i := 353) (by decide +kernel) rfl
theorem wmH_202 : Cond.methodLink "NotaryHall" 202 ⟨"NotaryHall", "isInVault", "(LNotaryHall$State;I)Z"⟩ ∈ z_ws := z_in (i := 355) (by decide +kernel) rfl
theorem wiH_isInVault : Cond.instanceMethod ⟨"NotaryHall", "isInVault", "(LNotaryHall$State;I)Z"⟩ ∈ z_ws := z_in (i := 357) (by decide +kernel) rfl
theorem wmH_314 : Cond.methodLink "NotaryHall" 314 ⟨"NotaryHall$State", "concerns", "(I)Z"⟩ ∈ z_ws := z_in (i := 359) (by decide +kernel) rfl
theorem wiS_concerns : Cond.instanceMethod ⟨"NotaryHall$State", "concerns", "(I)Z"⟩ ∈ z_ws := z_in (i := 360) (by decide +kernel) rfl
theorem wvS_concerns : Cond.selects "NotaryHall$State" ⟨"NotaryHall$State", "concerns", "(I)Z"⟩ ⟨"NotaryHall$State", "concerns", "(I)Z"⟩ ∈ z_ws := z_in (i := 361) (by decide +kernel) rfl
theorem wmS_34 : Cond.methodLink "NotaryHall$State" 34 ⟨"NotaryHall$State", "isCashOwnedBy", "(I)Z"⟩ ∈ z_ws := z_in (i := 363) (by decide +kernel) rfl
theorem wiS_isCashOwnedBy : Cond.instanceMethod ⟨"NotaryHall$State", "isCashOwnedBy", "(I)Z"⟩ ∈ z_ws := z_in (i := 364) (by decide +kernel) rfl
theorem wvS_isCashOwnedBy : Cond.selects "NotaryHall$State" ⟨"NotaryHall$State", "isCashOwnedBy", "(I)Z"⟩ ⟨"NotaryHall$State", "isCashOwnedBy", "(I)Z"⟩ ∈ z_ws := z_in (i := 365) (by decide +kernel) rfl
theorem wmH_317 : Cond.methodLink "NotaryHall" 317 ⟨"NotaryHall", "isKnownInput", "(LNotaryHall$State;I)Z"⟩ ∈ z_ws := z_in (i := 367) (by decide +kernel) rfl
theorem wiH_isKnownInput : Cond.instanceMethod ⟨"NotaryHall", "isKnownInput", "(LNotaryHall$State;I)Z"⟩ ∈ z_ws := z_in (i := 369) (by decide +kernel) rfl
theorem wmH_326 : Cond.methodLink "NotaryHall" 326 ⟨"NotaryHall", "isHeld", "(LNotaryHall$State;I)Z"⟩ ∈ z_ws := z_in (i := 371) (by decide +kernel) rfl
theorem wiH_isHeld : Cond.instanceMethod ⟨"NotaryHall", "isHeld", "(LNotaryHall$State;I)Z"⟩ ∈ z_ws := z_in (i := 373) (by decide +kernel) rfl
theorem wmH_320 : Cond.methodLink "NotaryHall" 320 ⟨"NotaryHall$Transaction", "isOpen", "()Z"⟩ ∈ z_ws := z_in (i := 375) (by decide +kernel) rfl
theorem wiT_isOpen : Cond.instanceMethod ⟨"NotaryHall$Transaction", "isOpen", "()Z"⟩ ∈ z_ws := z_in (i := 376) (by decide +kernel) rfl
theorem wvT_isOpen : Cond.selects "NotaryHall$Transaction" ⟨"NotaryHall$Transaction", "isOpen", "()Z"⟩ ⟨"NotaryHall$Transaction", "isOpen", "()Z"⟩ ∈ z_ws := z_in (i := 377) (by decide +kernel) rfl
theorem wmH_137 : Cond.methodLink "NotaryHall" 137 ⟨"NotaryHall", "takeCoins", "(LNotaryHall$Transaction;I)V"⟩ ∈ z_ws := z_in (i := 379) (by decide +kernel) rfl
theorem wiH_takeCoins : Cond.instanceMethod ⟨"NotaryHall", "takeCoins", "(LNotaryHall$Transaction;I)V"⟩ ∈ z_ws := z_in (i := 381) (by decide +kernel) rfl
theorem wmW_36 : Cond.methodLink "NotaryHallLaw" 36 ⟨"NotaryHall", "drop", "(I)Z"⟩ ∈ z_ws := z_in (i := 383) (by decide +kernel) rfl
theorem wiH_drop : Cond.instanceMethod ⟨"NotaryHall", "drop", "(I)Z"⟩ ∈ z_ws := z_in (i := 384) (by decide +kernel) rfl
theorem wvH_drop : Cond.selects "NotaryHall" ⟨"NotaryHall", "drop", "(I)Z"⟩ ⟨"NotaryHall", "drop", "(I)Z"⟩ ∈ z_ws := z_in (i := 385) (by decide +kernel) rfl
theorem wmW_41 : Cond.methodLink "NotaryHallLaw" 41 ⟨"NotaryHall", "propose", "(IZ)I"⟩ ∈ z_ws := z_in (i := 387) (by decide +kernel) rfl
theorem wiH_propose : Cond.instanceMethod ⟨"NotaryHall", "propose", "(IZ)I"⟩ ∈ z_ws := z_in (i := 388) (by decide +kernel) rfl
theorem wvH_propose : Cond.selects "NotaryHall" ⟨"NotaryHall", "propose", "(IZ)I"⟩ ⟨"NotaryHall", "propose", "(IZ)I"⟩ ∈ z_ws := z_in (i := 389) (by decide +kernel) rfl
theorem wmH_141 : Cond.methodLink "NotaryHall" 141 ⟨"NotaryHall$Transaction", "isValid", "()Z"⟩ ∈ z_ws := z_in (i := 391) (by decide +kernel) rfl
theorem wiT_isValid : Cond.instanceMethod ⟨"NotaryHall$Transaction", "isValid", "()Z"⟩ ∈ z_ws := z_in (i := 392) (by decide +kernel) rfl
theorem wvT_isValid : Cond.selects "NotaryHall$Transaction" ⟨"NotaryHall$Transaction", "isValid", "()Z"⟩ ⟨"NotaryHall$Transaction", "isValid", "()Z"⟩ ∈ z_ws := z_in (i := 393) (by decide +kernel) rfl
theorem wmT_97 : Cond.methodLink "NotaryHall$Transaction" 97 ⟨"NotaryHall$Transaction", "allowsInput", "(LNotaryHall$State;)Z"⟩ ∈ z_ws := z_in (i := 395) (by decide +kernel) rfl
theorem wiT_allowsInput : Cond.instanceMethod ⟨"NotaryHall$Transaction", "allowsInput", "(LNotaryHall$State;)Z"⟩ ∈ z_ws := z_in (i := 397) (by decide +kernel) rfl
theorem wmT_101 : Cond.methodLink "NotaryHall$Transaction" 101 ⟨"NotaryHall$State", "isBound", "()Z"⟩ ∈ z_ws := z_in (i := 399) (by decide +kernel) rfl
theorem wmT_104 : Cond.methodLink "NotaryHall$Transaction" 104 ⟨"NotaryHall$State", "boundNumber", "()I"⟩ ∈ z_ws := z_in (i := 400) (by decide +kernel) rfl
theorem wiS_boundNumber : Cond.instanceMethod ⟨"NotaryHall$State", "boundNumber", "()I"⟩ ∈ z_ws := z_in (i := 401) (by decide +kernel) rfl
theorem wvS_boundNumber : Cond.selects "NotaryHall$State" ⟨"NotaryHall$State", "boundNumber", "()I"⟩ ⟨"NotaryHall$State", "boundNumber", "()I"⟩ ∈ z_ws := z_in (i := 402) (by decide +kernel) rfl
theorem wmS_30 : Cond.methodLink "NotaryHall$State" 30 ⟨"NotaryHall$State", "source", "()I"⟩ ∈ z_ws := z_in (i := 404) (by decide +kernel) rfl
theorem wmT_107 : Cond.methodLink "NotaryHall$Transaction" 107 ⟨"NotaryHall$StateList", "holds", "(I)Z"⟩ ∈ z_ws := z_in (i := 405) (by decide +kernel) rfl
theorem wmH_145 : Cond.methodLink "NotaryHall" 145 ⟨"NotaryHall$Transaction", "seal", "(Z)V"⟩ ∈ z_ws := z_in (i := 406) (by decide +kernel) rfl
theorem wiT_seal : Cond.instanceMethod ⟨"NotaryHall$Transaction", "seal", "(Z)V"⟩ ∈ z_ws := z_in (i := 407) (by decide +kernel) rfl
theorem wvT_seal : Cond.selects "NotaryHall$Transaction" ⟨"NotaryHall$Transaction", "seal", "(Z)V"⟩ ⟨"NotaryHall$Transaction", "seal", "(Z)V"⟩ ∈ z_ws := z_in (i := 408) (by decide +kernel) rfl
theorem wmT_75 : Cond.methodLink "NotaryHall$Transaction" 75 ⟨"NotaryHall$Transaction", "needs", "()I"⟩ ∈ z_ws := z_in (i := 410) (by decide +kernel) rfl
theorem wiT_needs : Cond.instanceMethod ⟨"NotaryHall$Transaction", "needs", "()I"⟩ ∈ z_ws := z_in (i := 411) (by decide +kernel) rfl
theorem wvT_needs : Cond.selects "NotaryHall$Transaction" ⟨"NotaryHall$Transaction", "needs", "()I"⟩ ⟨"NotaryHall$Transaction", "needs", "()I"⟩ ∈ z_ws := z_in (i := 412) (by decide +kernel) rfl
theorem wmT_117 : Cond.methodLink "NotaryHall$Transaction" 117 ⟨"NotaryHall$Transaction", "mustSign", "(I)Z"⟩ ∈ z_ws := z_in (i := 414) (by decide +kernel) rfl
theorem wiT_mustSign : Cond.instanceMethod ⟨"NotaryHall$Transaction", "mustSign", "(I)Z"⟩ ∈ z_ws := z_in (i := 416) (by decide +kernel) rfl
theorem wmT_120 : Cond.methodLink "NotaryHall$Transaction" 120 ⟨"NotaryHall$StateList", "holdsCashOwnedBy", "(I)Z"⟩ ∈ z_ws := z_in (i := 418) (by decide +kernel) rfl
theorem wiL_holdsCashOwnedBy : Cond.instanceMethod ⟨"NotaryHall$StateList", "holdsCashOwnedBy", "(I)Z"⟩ ∈ z_ws := z_in (i := 419) (by decide +kernel) rfl
theorem wvL_holdsCashOwnedBy : Cond.selects "NotaryHall$StateList" ⟨"NotaryHall$StateList", "holdsCashOwnedBy", "(I)Z"⟩ ⟨"NotaryHall$StateList", "holdsCashOwnedBy", "(I)Z"⟩ ∈ z_ws := z_in (i := 420) (by decide +kernel) rfl
theorem wmL_24 : Cond.methodLink "NotaryHall$StateList" 24 ⟨"NotaryHall$State", "isCashOwnedBy", "(I)Z"⟩ ∈ z_ws := z_in (i := 422) (by decide +kernel) rfl
theorem wmT_123 : Cond.methodLink "NotaryHall$Transaction" 123 ⟨"NotaryHall$StateList", "cashIssuedBy", "(I)I"⟩ ∈ z_ws := z_in (i := 423) (by decide +kernel) rfl
theorem wiL_cashIssuedBy : Cond.instanceMethod ⟨"NotaryHall$StateList", "cashIssuedBy", "(I)I"⟩ ∈ z_ws := z_in (i := 424) (by decide +kernel) rfl
theorem wvL_cashIssuedBy : Cond.selects "NotaryHall$StateList" ⟨"NotaryHall$StateList", "cashIssuedBy", "(I)I"⟩ ⟨"NotaryHall$StateList", "cashIssuedBy", "(I)I"⟩ ∈ z_ws := z_in (i := 425) (by decide +kernel) rfl
theorem wmL_28 : Cond.methodLink "NotaryHall$StateList" 28 ⟨"NotaryHall$State", "isCashIssuedBy", "(I)Z"⟩ ∈ z_ws := z_in (i := 427) (by decide +kernel) rfl
theorem wmT_126 : Cond.methodLink "NotaryHall$Transaction" 126 ⟨"NotaryHall$Transaction", "owesMore", "(I)Z"⟩ ∈ z_ws := z_in (i := 428) (by decide +kernel) rfl
theorem wiT_owesMore : Cond.instanceMethod ⟨"NotaryHall$Transaction", "owesMore", "(I)Z"⟩ ∈ z_ws := z_in (i := 430) (by decide +kernel) rfl
theorem wmT_132 : Cond.methodLink "NotaryHall$Transaction" 132 ⟨"NotaryHall$StateList", "debtOf", "(II)I"⟩ ∈ z_ws := z_in (i := 432) (by decide +kernel) rfl
theorem wiL_debtOf : Cond.instanceMethod ⟨"NotaryHall$StateList", "debtOf", "(II)I"⟩ ∈ z_ws := z_in (i := 433) (by decide +kernel) rfl
theorem wvL_debtOf : Cond.selects "NotaryHall$StateList" ⟨"NotaryHall$StateList", "debtOf", "(II)I"⟩ ⟨"NotaryHall$StateList", "debtOf", "(II)I"⟩ ∈ z_ws := z_in (i := 434) (by decide +kernel) rfl
theorem wmL_34 : Cond.methodLink "NotaryHall$StateList" 34 ⟨"NotaryHall$State", "isDebtOf", "(II)Z"⟩ ∈ z_ws := z_in (i := 436) (by decide +kernel) rfl
theorem wiS_isDebtOf : Cond.instanceMethod ⟨"NotaryHall$State", "isDebtOf", "(II)Z"⟩ ∈ z_ws := z_in (i := 437) (by decide +kernel) rfl
theorem wvS_isDebtOf : Cond.selects "NotaryHall$State" ⟨"NotaryHall$State", "isDebtOf", "(II)Z"⟩ ⟨"NotaryHall$State", "isDebtOf", "(II)Z"⟩ ∈ z_ws := z_in (i := 438) (by decide +kernel) rfl
theorem wmT_129 : Cond.methodLink "NotaryHall$Transaction" 129 ⟨"NotaryHall$Transaction", "isLetDown", "(I)Z"⟩ ∈ z_ws := z_in (i := 440) (by decide +kernel) rfl
theorem wiT_isLetDown : Cond.instanceMethod ⟨"NotaryHall$Transaction", "isLetDown", "(I)Z"⟩ ∈ z_ws := z_in (i := 442) (by decide +kernel) rfl
theorem wmT_136 : Cond.methodLink "NotaryHall$Transaction" 136 ⟨"java/lang/Math", "max", "(II)I"⟩ ∈ z_ws := z_in (i := 444) (by decide +kernel) rfl
theorem wtJM_max : Cond.static ⟨"java/lang/Math", "max", "(II)I"⟩ ∈ z_ws := z_in (i := 445) (by decide +kernel) rfl
theorem wmT_141 : Cond.methodLink "NotaryHall$Transaction" 141 ⟨"NotaryHall$StateList", "cashOwnedBy", "(I)I"⟩ ∈ z_ws := z_in (i := 447) (by decide +kernel) rfl
theorem wiL_cashOwnedBy : Cond.instanceMethod ⟨"NotaryHall$StateList", "cashOwnedBy", "(I)I"⟩ ∈ z_ws := z_in (i := 448) (by decide +kernel) rfl
theorem wvL_cashOwnedBy : Cond.selects "NotaryHall$StateList" ⟨"NotaryHall$StateList", "cashOwnedBy", "(I)I"⟩ ⟨"NotaryHall$StateList", "cashOwnedBy", "(I)I"⟩ ∈ z_ws := z_in (i := 449) (by decide +kernel) rfl
theorem wmT_82 : Cond.methodLink "NotaryHall$Transaction" 82 ⟨"NotaryHall$Transaction", "isValid", "()Z"⟩ ∈ z_ws := z_in (i := 451) (by decide +kernel) rfl
theorem wmT_86 : Cond.methodLink "NotaryHall$Transaction" 86 ⟨"NotaryHall$Transaction", "needsNobodyElse", "()Z"⟩ ∈ z_ws := z_in (i := 452) (by decide +kernel) rfl
theorem wiT_needsNobodyElse : Cond.instanceMethod ⟨"NotaryHall$Transaction", "needsNobodyElse", "()Z"⟩ ∈ z_ws := z_in (i := 453) (by decide +kernel) rfl
theorem wvT_needsNobodyElse : Cond.selects "NotaryHall$Transaction" ⟨"NotaryHall$Transaction", "needsNobodyElse", "()Z"⟩ ⟨"NotaryHall$Transaction", "needsNobodyElse", "()Z"⟩ ∈ z_ws := z_in (i := 454) (by decide +kernel) rfl
theorem wmH_149 : Cond.methodLink "NotaryHall" 149 ⟨"NotaryHall$Transaction", "needsNobodyElse", "()Z"⟩ ∈ z_ws := z_in (i := 456) (by decide +kernel) rfl
theorem wmH_152 : Cond.methodLink "NotaryHall" 152 ⟨"NotaryHall", "sendNotarise", "(LNotaryHall$Transaction;)I"⟩ ∈ z_ws := z_in (i := 457) (by decide +kernel) rfl
theorem wiH_sendNotarise : Cond.instanceMethod ⟨"NotaryHall", "sendNotarise", "(LNotaryHall$Transaction;)I"⟩ ∈ z_ws := z_in (i := 459) (by decide +kernel) rfl
theorem wmH_264 : Cond.methodLink "NotaryHall" 264 ⟨"NotaryHall", "send", "(ILNotaryHall$Transaction;III)I"⟩ ∈ z_ws := z_in (i := 461) (by decide +kernel) rfl
theorem wiH_send : Cond.instanceMethod ⟨"NotaryHall", "send", "(ILNotaryHall$Transaction;III)I"⟩ ∈ z_ws := z_in (i := 463) (by decide +kernel) rfl
theorem wmH_304 : Cond.methodLink "NotaryHall" 304 ⟨"NotaryHall$Mailbox", "code", "(IIIII)I"⟩ ∈ z_ws := z_in (i := 465) (by decide +kernel) rfl
theorem wtB_code : Cond.static ⟨"NotaryHall$Mailbox", "code", "(IIIII)I"⟩ ∈ z_ws := z_in (i := 466) (by decide +kernel) rfl
theorem wmH_308 : Cond.methodLink "NotaryHall" 308 ⟨"NotaryHall$Mailbox", "post", "(I)Z"⟩ ∈ z_ws := z_in (i := 468) (by decide +kernel) rfl
theorem wiB_post : Cond.instanceMethod ⟨"NotaryHall$Mailbox", "post", "(I)Z"⟩ ∈ z_ws := z_in (i := 469) (by decide +kernel) rfl
theorem wvB_post : Cond.selects "NotaryHall$Mailbox" ⟨"NotaryHall$Mailbox", "post", "(I)Z"⟩ ⟨"NotaryHall$Mailbox", "post", "(I)Z"⟩ ∈ z_ws := z_in (i := 470) (by decide +kernel) rfl
theorem wmB_19 : Cond.methodLink "NotaryHall$Mailbox" 19 ⟨"NotaryHall$Mailbox", "isWaiting", "(I)Z"⟩ ∈ z_ws := z_in (i := 472) (by decide +kernel) rfl
theorem wiB_isWaiting : Cond.instanceMethod ⟨"NotaryHall$Mailbox", "isWaiting", "(I)Z"⟩ ∈ z_ws := z_in (i := 474) (by decide +kernel) rfl
theorem wmH_159 : Cond.methodLink "NotaryHall" 159 ⟨"NotaryHall", "sendToOthers", "(ILNotaryHall$Transaction;I)I"⟩ ∈ z_ws := z_in (i := 476) (by decide +kernel) rfl
theorem wiH_sendToOthers : Cond.instanceMethod ⟨"NotaryHall", "sendToOthers", "(ILNotaryHall$Transaction;I)I"⟩ ∈ z_ws := z_in (i := 478) (by decide +kernel) rfl
theorem wmW_46 : Cond.methodLink "NotaryHallLaw" 46 ⟨"NotaryHall", "deliver", "(IZ)I"⟩ ∈ z_ws := z_in (i := 480) (by decide +kernel) rfl
theorem wiH_deliver : Cond.instanceMethod ⟨"NotaryHall", "deliver", "(IZ)I"⟩ ∈ z_ws := z_in (i := 481) (by decide +kernel) rfl
theorem wvH_deliver : Cond.selects "NotaryHall" ⟨"NotaryHall", "deliver", "(IZ)I"⟩ ⟨"NotaryHall", "deliver", "(IZ)I"⟩ ∈ z_ws := z_in (i := 482) (by decide +kernel) rfl
theorem wmH_163 : Cond.methodLink "NotaryHall" 163 ⟨"NotaryHall$Mailbox", "holdsPlace", "(I)Z"⟩ ∈ z_ws := z_in (i := 484) (by decide +kernel) rfl
theorem wiB_holdsPlace : Cond.instanceMethod ⟨"NotaryHall$Mailbox", "holdsPlace", "(I)Z"⟩ ∈ z_ws := z_in (i := 485) (by decide +kernel) rfl
theorem wvB_holdsPlace : Cond.selects "NotaryHall$Mailbox" ⟨"NotaryHall$Mailbox", "holdsPlace", "(I)Z"⟩ ⟨"NotaryHall$Mailbox", "holdsPlace", "(I)Z"⟩ ∈ z_ws := z_in (i := 486) (by decide +kernel) rfl
theorem wmH_169 : Cond.methodLink "NotaryHall" 169 ⟨"NotaryHall", "receive", "(IZ)I"⟩ ∈ z_ws := z_in (i := 488) (by decide +kernel) rfl
theorem wiH_receive : Cond.instanceMethod ⟨"NotaryHall", "receive", "(IZ)I"⟩ ∈ z_ws := z_in (i := 490) (by decide +kernel) rfl
theorem wmH_219 : Cond.methodLink "NotaryHall" 219 ⟨"NotaryHall$Mailbox", "transactionOf", "(I)I"⟩ ∈ z_ws := z_in (i := 492) (by decide +kernel) rfl
theorem wtB_transactionOf : Cond.static ⟨"NotaryHall$Mailbox", "transactionOf", "(I)I"⟩ ∈ z_ws := z_in (i := 493) (by decide +kernel) rfl
theorem wmH_222 : Cond.methodLink "NotaryHall" 222 ⟨"NotaryHall$Mailbox", "receiverOf", "(I)I"⟩ ∈ z_ws := z_in (i := 495) (by decide +kernel) rfl
theorem wtB_receiverOf : Cond.static ⟨"NotaryHall$Mailbox", "receiverOf", "(I)I"⟩ ∈ z_ws := z_in (i := 496) (by decide +kernel) rfl
theorem wmH_225 : Cond.methodLink "NotaryHall" 225 ⟨"NotaryHall$Mailbox", "contentOf", "(I)I"⟩ ∈ z_ws := z_in (i := 498) (by decide +kernel) rfl
theorem wtB_contentOf : Cond.static ⟨"NotaryHall$Mailbox", "contentOf", "(I)I"⟩ ∈ z_ws := z_in (i := 499) (by decide +kernel) rfl
theorem wmH_228 : Cond.methodLink "NotaryHall" 228 ⟨"NotaryHall$Mailbox", "kindOf", "(I)I"⟩ ∈ z_ws := z_in (i := 501) (by decide +kernel) rfl
theorem wtB_kindOf : Cond.static ⟨"NotaryHall$Mailbox", "kindOf", "(I)I"⟩ ∈ z_ws := z_in (i := 502) (by decide +kernel) rfl
theorem wmH_231 : Cond.methodLink "NotaryHall" 231 ⟨"NotaryHall", "receiveAsk", "(LNotaryHall$Transaction;IZ)I"⟩ ∈ z_ws := z_in (i := 504) (by decide +kernel) rfl
theorem wiH_receiveAsk : Cond.instanceMethod ⟨"NotaryHall", "receiveAsk", "(LNotaryHall$Transaction;IZ)I"⟩ ∈ z_ws := z_in (i := 506) (by decide +kernel) rfl
theorem wmH_251 : Cond.methodLink "NotaryHall" 251 ⟨"NotaryHall$Transaction", "decide", "(IZ)V"⟩ ∈ z_ws := z_in (i := 508) (by decide +kernel) rfl
theorem wiT_decide : Cond.instanceMethod ⟨"NotaryHall$Transaction", "decide", "(IZ)V"⟩ ∈ z_ws := z_in (i := 509) (by decide +kernel) rfl
theorem wvT_decide : Cond.selects "NotaryHall$Transaction" ⟨"NotaryHall$Transaction", "decide", "(IZ)V"⟩ ⟨"NotaryHall$Transaction", "decide", "(IZ)V"⟩ ∈ z_ws := z_in (i := 510) (by decide +kernel) rfl
theorem wmH_261 : Cond.methodLink "NotaryHall" 261 ⟨"NotaryHall$Node", "fetch", "(I)V"⟩ ∈ z_ws := z_in (i := 513) (by decide +kernel) rfl
theorem wiN_fetch : Cond.instanceMethod ⟨"NotaryHall$Node", "fetch", "(I)V"⟩ ∈ z_ws := z_in (i := 514) (by decide +kernel) rfl
theorem wvN_fetch : Cond.selects "NotaryHall$Node" ⟨"NotaryHall$Node", "fetch", "(I)V"⟩ ⟨"NotaryHall$Node", "fetch", "(I)V"⟩ ∈ z_ws := z_in (i := 515) (by decide +kernel) rfl
theorem wmN_25 : Cond.methodLink "NotaryHall$Node" 25 ⟨"java/lang/Integer", "bitCount", "(I)I"⟩ ∈ z_ws := z_in (i := 517) (by decide +kernel) rfl
theorem wtJI_bitCount : Cond.static ⟨"java/lang/Integer", "bitCount", "(I)I"⟩ ∈ z_ws := z_in (i := 518) (by decide +kernel) rfl
theorem wkJI_265 : Cond.constant "java/lang/Integer" 265 1431655765 ∈ z_ws := z_in (i := 520) (by decide +kernel) rfl
theorem wkJI_266 : Cond.constant "java/lang/Integer" 266 858993459 ∈ z_ws := z_in (i := 521) (by decide +kernel) rfl
theorem wkJI_267 : Cond.constant "java/lang/Integer" 267 252645135 ∈ z_ws := z_in (i := 522) (by decide +kernel) rfl
theorem wmH_235 : Cond.methodLink "NotaryHall" 235 ⟨"NotaryHall$Mailbox", "senderOf", "(I)I"⟩ ∈ z_ws := z_in (i := 523) (by decide +kernel) rfl
theorem wtB_senderOf : Cond.static ⟨"NotaryHall$Mailbox", "senderOf", "(I)I"⟩ ∈ z_ws := z_in (i := 524) (by decide +kernel) rfl
theorem wmH_238 : Cond.methodLink "NotaryHall" 238 ⟨"NotaryHall", "receiveReply", "(LNotaryHall$Transaction;IIZ)I"⟩ ∈ z_ws := z_in (i := 526) (by decide +kernel) rfl
theorem wiH_receiveReply : Cond.instanceMethod ⟨"NotaryHall", "receiveReply", "(LNotaryHall$Transaction;IIZ)I"⟩ ∈ z_ws := z_in (i := 528) (by decide +kernel) rfl
theorem wmH_242 : Cond.methodLink "NotaryHall" 242 ⟨"NotaryHall", "receiveNotarise", "(LNotaryHall$Transaction;)I"⟩ ∈ z_ws := z_in (i := 530) (by decide +kernel) rfl
theorem wiH_receiveNotarise : Cond.instanceMethod ⟨"NotaryHall", "receiveNotarise", "(LNotaryHall$Transaction;)I"⟩ ∈ z_ws := z_in (i := 532) (by decide +kernel) rfl
theorem wmH_268 : Cond.methodLink "NotaryHall" 268 ⟨"NotaryHall", "judge", "(LNotaryHall$Transaction;)I"⟩ ∈ z_ws := z_in (i := 534) (by decide +kernel) rfl
theorem wiH_judge : Cond.instanceMethod ⟨"NotaryHall", "judge", "(LNotaryHall$Transaction;)I"⟩ ∈ z_ws := z_in (i := 536) (by decide +kernel) rfl
theorem wmH_295 : Cond.methodLink "NotaryHall" 295 ⟨"NotaryHall", "isAnyInputUsedUp", "(LNotaryHall$Transaction;)Z"⟩ ∈ z_ws := z_in (i := 538) (by decide +kernel) rfl
theorem wiH_isAnyInputUsedUp : Cond.instanceMethod ⟨"NotaryHall", "isAnyInputUsedUp", "(LNotaryHall$Transaction;)Z"⟩ ∈ z_ws := z_in (i := 540) (by decide +kernel) rfl
theorem wmH_271 : Cond.methodLink "NotaryHall" 271 ⟨"NotaryHall", "useUpInputs", "(LNotaryHall$Transaction;)V"⟩ ∈ z_ws := z_in (i := 542) (by decide +kernel) rfl
theorem wiH_useUpInputs : Cond.instanceMethod ⟨"NotaryHall", "useUpInputs", "(LNotaryHall$Transaction;)V"⟩ ∈ z_ws := z_in (i := 544) (by decide +kernel) rfl
theorem wmH_245 : Cond.methodLink "NotaryHall" 245 ⟨"NotaryHall", "receiveVerdict", "(LNotaryHall$Transaction;IZ)I"⟩ ∈ z_ws := z_in (i := 546) (by decide +kernel) rfl
theorem wiH_receiveVerdict : Cond.instanceMethod ⟨"NotaryHall", "receiveVerdict", "(LNotaryHall$Transaction;IZ)I"⟩ ∈ z_ws := z_in (i := 548) (by decide +kernel) rfl
theorem wmH_275 : Cond.methodLink "NotaryHall" 275 ⟨"NotaryHall$Transaction", "concerned", "()I"⟩ ∈ z_ws := z_in (i := 550) (by decide +kernel) rfl
theorem wiT_concerned : Cond.instanceMethod ⟨"NotaryHall$Transaction", "concerned", "()I"⟩ ∈ z_ws := z_in (i := 551) (by decide +kernel) rfl
theorem wvT_concerned : Cond.selects "NotaryHall$Transaction" ⟨"NotaryHall$Transaction", "concerned", "()I"⟩ ⟨"NotaryHall$Transaction", "concerned", "()I"⟩ ∈ z_ws := z_in (i := 552) (by decide +kernel) rfl
theorem wmT_144 : Cond.methodLink "NotaryHall$Transaction" 144 ⟨"NotaryHall$State", "concerns", "(I)Z"⟩ ∈ z_ws := z_in (i := 554) (by decide +kernel) rfl
theorem wmH_278 : Cond.methodLink "NotaryHall" 278 ⟨"NotaryHall", "settle", "(LNotaryHall$Transaction;I)V"⟩ ∈ z_ws := z_in (i := 555) (by decide +kernel) rfl
theorem wiH_settle : Cond.instanceMethod ⟨"NotaryHall", "settle", "(LNotaryHall$Transaction;I)V"⟩ ∈ z_ws := z_in (i := 557) (by decide +kernel) rfl
theorem wmH_286 : Cond.methodLink "NotaryHall" 286 ⟨"NotaryHall$Node", "enter", "(I)V"⟩ ∈ z_ws := z_in (i := 559) (by decide +kernel) rfl
theorem wiN_enter : Cond.instanceMethod ⟨"NotaryHall$Node", "enter", "(I)V"⟩ ∈ z_ws := z_in (i := 560) (by decide +kernel) rfl
theorem wvN_enter : Cond.selects "NotaryHall$Node" ⟨"NotaryHall$Node", "enter", "(I)V"⟩ ⟨"NotaryHall$Node", "enter", "(I)V"⟩ ∈ z_ws := z_in (i := 561) (by decide +kernel) rfl
theorem wmH_248 : Cond.methodLink "NotaryHall" 248 ⟨"NotaryHall", "receiveFinality", "(LNotaryHall$Transaction;IZ)I"⟩ ∈ z_ws := z_in (i := 563) (by decide +kernel) rfl
theorem wiH_receiveFinality : Cond.instanceMethod ⟨"NotaryHall", "receiveFinality", "(LNotaryHall$Transaction;IZ)I"⟩ ∈ z_ws := z_in (i := 565) (by decide +kernel) rfl
theorem wmH_173 : Cond.methodLink "NotaryHall" 173 ⟨"NotaryHall$Mailbox", "removeAt", "(I)V"⟩ ∈ z_ws := z_in (i := 567) (by decide +kernel) rfl
theorem wiB_removeAt : Cond.instanceMethod ⟨"NotaryHall$Mailbox", "removeAt", "(I)V"⟩ ∈ z_ws := z_in (i := 568) (by decide +kernel) rfl
theorem wvB_removeAt : Cond.selects "NotaryHall$Mailbox" ⟨"NotaryHall$Mailbox", "removeAt", "(I)V"⟩ ⟨"NotaryHall$Mailbox", "removeAt", "(I)V"⟩ ∈ z_ws := z_in (i := 569) (by decide +kernel) rfl
theorem wmB_23 : Cond.methodLink "NotaryHall$Mailbox" 23 ⟨"NotaryHall$Mailbox", "holdsPlace", "(I)Z"⟩ ∈ z_ws := z_in (i := 571) (by decide +kernel) rfl
theorem wmW_50 : Cond.methodLink "NotaryHallLaw" 50 ⟨"NotaryHall", "message", "(I)I"⟩ ∈ z_ws := z_in (i := 572) (by decide +kernel) rfl
theorem wiH_message : Cond.instanceMethod ⟨"NotaryHall", "message", "(I)I"⟩ ∈ z_ws := z_in (i := 573) (by decide +kernel) rfl
theorem wvH_message : Cond.selects "NotaryHall" ⟨"NotaryHall", "message", "(I)I"⟩ ⟨"NotaryHall", "message", "(I)I"⟩ ∈ z_ws := z_in (i := 574) (by decide +kernel) rfl
theorem wmW_55 : Cond.methodLink "NotaryHallLaw" 55 ⟨"NotaryHall", "tick", "(I)I"⟩ ∈ z_ws := z_in (i := 576) (by decide +kernel) rfl
theorem wiH_tick : Cond.instanceMethod ⟨"NotaryHall", "tick", "(I)I"⟩ ∈ z_ws := z_in (i := 577) (by decide +kernel) rfl
theorem wvH_tick : Cond.selects "NotaryHall" ⟨"NotaryHall", "tick", "(I)I"⟩ ⟨"NotaryHall", "tick", "(I)I"⟩ ∈ z_ws := z_in (i := 578) (by decide +kernel) rfl
theorem wmW_59 : Cond.methodLink "NotaryHallLaw" 59 ⟨"NotaryHall", "consent", "(IIZ)Z"⟩ ∈ z_ws := z_in (i := 580) (by decide +kernel) rfl
theorem wiH_consent : Cond.instanceMethod ⟨"NotaryHall", "consent", "(IIZ)Z"⟩ ∈ z_ws := z_in (i := 581) (by decide +kernel) rfl
theorem wvH_consent : Cond.selects "NotaryHall" ⟨"NotaryHall", "consent", "(IIZ)Z"⟩ ⟨"NotaryHall", "consent", "(IIZ)Z"⟩ ∈ z_ws := z_in (i := 582) (by decide +kernel) rfl
theorem wmW_64 : Cond.methodLink "NotaryHallLaw" 64 ⟨"NotaryHall", "stage", "(I)I"⟩ ∈ z_ws := z_in (i := 584) (by decide +kernel) rfl
theorem wiH_stage : Cond.instanceMethod ⟨"NotaryHall", "stage", "(I)I"⟩ ∈ z_ws := z_in (i := 585) (by decide +kernel) rfl
theorem wvH_stage : Cond.selects "NotaryHall" ⟨"NotaryHall", "stage", "(I)I"⟩ ⟨"NotaryHall", "stage", "(I)I"⟩ ∈ z_ws := z_in (i := 586) (by decide +kernel) rfl
theorem wmW_68 : Cond.methodLink "NotaryHallLaw" 68 ⟨"NotaryHall", "signatures", "(IZ)I"⟩ ∈ z_ws := z_in (i := 588) (by decide +kernel) rfl
theorem wiH_signatures : Cond.instanceMethod ⟨"NotaryHall", "signatures", "(IZ)I"⟩ ∈ z_ws := z_in (i := 589) (by decide +kernel) rfl
theorem wvH_signatures : Cond.selects "NotaryHall" ⟨"NotaryHall", "signatures", "(IZ)I"⟩ ⟨"NotaryHall", "signatures", "(IZ)I"⟩ ∈ z_ws := z_in (i := 590) (by decide +kernel) rfl
theorem wmH_190 : Cond.methodLink "NotaryHall" 190 ⟨"NotaryHall$Transaction", "needs", "()I"⟩ ∈ z_ws := z_in (i := 592) (by decide +kernel) rfl
theorem wmW_72 : Cond.methodLink "NotaryHallLaw" 72 ⟨"NotaryHall", "verdict", "(I)I"⟩ ∈ z_ws := z_in (i := 593) (by decide +kernel) rfl
theorem wiH_verdict : Cond.instanceMethod ⟨"NotaryHall", "verdict", "(I)I"⟩ ∈ z_ws := z_in (i := 594) (by decide +kernel) rfl
theorem wvH_verdict : Cond.selects "NotaryHall" ⟨"NotaryHall", "verdict", "(I)I"⟩ ⟨"NotaryHall", "verdict", "(I)I"⟩ ∈ z_ws := z_in (i := 595) (by decide +kernel) rfl
theorem wmW_76 : Cond.methodLink "NotaryHallLaw" 76 ⟨"NotaryHall", "spender", "(II)I"⟩ ∈ z_ws := z_in (i := 597) (by decide +kernel) rfl
theorem wiH_spender : Cond.instanceMethod ⟨"NotaryHall", "spender", "(II)I"⟩ ∈ z_ws := z_in (i := 598) (by decide +kernel) rfl
theorem wvH_spender : Cond.selects "NotaryHall" ⟨"NotaryHall", "spender", "(II)I"⟩ ⟨"NotaryHall", "spender", "(II)I"⟩ ∈ z_ws := z_in (i := 599) (by decide +kernel) rfl
theorem wmW_81 : Cond.methodLink "NotaryHallLaw" 81 ⟨"NotaryHall", "standing", "(II)I"⟩ ∈ z_ws := z_in (i := 601) (by decide +kernel) rfl
theorem wiH_standing : Cond.instanceMethod ⟨"NotaryHall", "standing", "(II)I"⟩ ∈ z_ws := z_in (i := 602) (by decide +kernel) rfl
theorem wvH_standing : Cond.selects "NotaryHall" ⟨"NotaryHall", "standing", "(II)I"⟩ ⟨"NotaryHall", "standing", "(II)I"⟩ ∈ z_ws := z_in (i := 603) (by decide +kernel) rfl
theorem wmW_85 : Cond.methodLink "NotaryHallLaw" 85 ⟨"NotaryHall", "vault", "(II)I"⟩ ∈ z_ws := z_in (i := 605) (by decide +kernel) rfl
theorem wiH_vault : Cond.instanceMethod ⟨"NotaryHall", "vault", "(II)I"⟩ ∈ z_ws := z_in (i := 606) (by decide +kernel) rfl
theorem wvH_vault : Cond.selects "NotaryHall" ⟨"NotaryHall", "vault", "(II)I"⟩ ⟨"NotaryHall", "vault", "(II)I"⟩ ∈ z_ws := z_in (i := 607) (by decide +kernel) rfl
theorem wmW_89 : Cond.methodLink "NotaryHallLaw" 89 ⟨"NotaryHall", "balance", "(II)I"⟩ ∈ z_ws := z_in (i := 609) (by decide +kernel) rfl
theorem wiH_balance : Cond.instanceMethod ⟨"NotaryHall", "balance", "(II)I"⟩ ∈ z_ws := z_in (i := 610) (by decide +kernel) rfl
theorem wvH_balance : Cond.selects "NotaryHall" ⟨"NotaryHall", "balance", "(II)I"⟩ ⟨"NotaryHall", "balance", "(II)I"⟩ ∈ z_ws := z_in (i := 611) (by decide +kernel) rfl
theorem wmW_93 : Cond.methodLink "NotaryHallLaw" 93 ⟨"NotaryHall", "fetched", "(I)I"⟩ ∈ z_ws := z_in (i := 613) (by decide +kernel) rfl
theorem wiH_fetched : Cond.instanceMethod ⟨"NotaryHall", "fetched", "(I)I"⟩ ∈ z_ws := z_in (i := 614) (by decide +kernel) rfl
theorem wvH_fetched : Cond.selects "NotaryHall" ⟨"NotaryHall", "fetched", "(I)I"⟩ ⟨"NotaryHall", "fetched", "(I)I"⟩ ∈ z_ws := z_in (i := 615) (by decide +kernel) rfl
theorem wmW_97 : Cond.methodLink "NotaryHallLaw" 97 ⟨"NotaryHall", "tree", "(III)I"⟩ ∈ z_ws := z_in (i := 617) (by decide +kernel) rfl
theorem wiH_tree : Cond.instanceMethod ⟨"NotaryHall", "tree", "(III)I"⟩ ∈ z_ws := z_in (i := 618) (by decide +kernel) rfl
theorem wvH_tree : Cond.selects "NotaryHall" ⟨"NotaryHall", "tree", "(III)I"⟩ ⟨"NotaryHall", "tree", "(III)I"⟩ ∈ z_ws := z_in (i := 619) (by decide +kernel) rfl
theorem wmH_212 : Cond.methodLink "NotaryHall" 212 ⟨"NotaryHall$Transaction", "leaf", "(I)I"⟩ ∈ z_ws := z_in (i := 621) (by decide +kernel) rfl
theorem wiT_leaf : Cond.instanceMethod ⟨"NotaryHall$Transaction", "leaf", "(I)I"⟩ ∈ z_ws := z_in (i := 622) (by decide +kernel) rfl
theorem wvT_leaf : Cond.selects "NotaryHall$Transaction" ⟨"NotaryHall$Transaction", "leaf", "(I)I"⟩ ⟨"NotaryHall$Transaction", "leaf", "(I)I"⟩ ∈ z_ws := z_in (i := 623) (by decide +kernel) rfl
theorem wmT_147 : Cond.methodLink "NotaryHall$Transaction" 147 ⟨"NotaryHall$Transaction", "inputLeaf", "(I)I"⟩ ∈ z_ws := z_in (i := 625) (by decide +kernel) rfl
theorem wiT_inputLeaf : Cond.instanceMethod ⟨"NotaryHall$Transaction", "inputLeaf", "(I)I"⟩ ∈ z_ws := z_in (i := 627) (by decide +kernel) rfl
theorem wmT_150 : Cond.methodLink "NotaryHall$Transaction" 150 ⟨"NotaryHall$Transaction", "outputLeaf", "(I)I"⟩ ∈ z_ws := z_in (i := 629) (by decide +kernel) rfl
theorem wiT_outputLeaf : Cond.instanceMethod ⟨"NotaryHall$Transaction", "outputLeaf", "(I)I"⟩ ∈ z_ws := z_in (i := 631) (by decide +kernel) rfl
theorem wmT_154 : Cond.methodLink "NotaryHall$Transaction" 154 ⟨"NotaryHall$State", "leafValue", "()I"⟩ ∈ z_ws := z_in (i := 633) (by decide +kernel) rfl
theorem wiS_leafValue : Cond.instanceMethod ⟨"NotaryHall$State", "leafValue", "()I"⟩ ∈ z_ws := z_in (i := 634) (by decide +kernel) rfl
theorem wvS_leafValue : Cond.selects "NotaryHall$State" ⟨"NotaryHall$State", "leafValue", "()I"⟩ ⟨"NotaryHall$State", "leafValue", "()I"⟩ ∈ z_ws := z_in (i := 635) (by decide +kernel) rfl
theorem wmH_215 : Cond.methodLink "NotaryHall" 215 ⟨"NotaryHall", "mix", "(II)I"⟩ ∈ z_ws := z_in (i := 637) (by decide +kernel) rfl
theorem wtH_mix : Cond.static ⟨"NotaryHall", "mix", "(II)I"⟩ ∈ z_ws := z_in (i := 638) (by decide +kernel) rfl
theorem wcW_10 : Cond.classLink "NotaryHallLaw" 10 "NotaryHallModel" ∈ z_ws := z_in (i := 640) (by decide +kernel) rfl
theorem wqR : Cond.instantiable "NotaryHallModel" 27 ∈ z_ws := z_in (i := 641) (by decide +kernel) rfl
theorem wmW_12 : Cond.methodLink "NotaryHallLaw" 12 ⟨"NotaryHallModel", "<init>", "()V"⟩ ∈ z_ws := z_in (i := 642) (by decide +kernel) rfl
theorem wiR_init : Cond.instanceMethod ⟨"NotaryHallModel", "<init>", "()V"⟩ ∈ z_ws := z_in (i := 643) (by decide +kernel) rfl
theorem wmR_1 : Cond.methodLink "NotaryHallModel" 1 ⟨"java/lang/Object", "<init>", "()V"⟩ ∈ z_ws := z_in (i := 645) (by decide +kernel) rfl
theorem wfR_83 : Cond.fieldLink "NotaryHallModel" 83 "NotaryHallModel" "many" "I" ∈ z_ws := z_in (i := 646) (by decide +kernel) rfl
theorem wfR_7 : Cond.fieldLink "NotaryHallModel" 7 "NotaryHallModel" "begunBy" "[I" ∈ z_ws := z_in (i := 647) (by decide +kernel) rfl
theorem wfR_13 : Cond.fieldLink "NotaryHallModel" 13 "NotaryHallModel" "notaryOf" "[I" ∈ z_ws := z_in (i := 648) (by decide +kernel) rfl
theorem wfR_16 : Cond.fieldLink "NotaryHallModel" 16 "NotaryHallModel" "fromTime" "[I" ∈ z_ws := z_in (i := 649) (by decide +kernel) rfl
theorem wfR_19 : Cond.fieldLink "NotaryHallModel" 19 "NotaryHallModel" "untilTime" "[I" ∈ z_ws := z_in (i := 650) (by decide +kernel) rfl
theorem wfR_22 : Cond.fieldLink "NotaryHallModel" 22 "NotaryHallModel" "stageOf" "[I" ∈ z_ws := z_in (i := 651) (by decide +kernel) rfl
theorem wfR_25 : Cond.fieldLink "NotaryHallModel" 25 "NotaryHallModel" "hasty" "[Z" ∈ z_ws := z_in (i := 652) (by decide +kernel) rfl
theorem wfR_29 : Cond.fieldLink "NotaryHallModel" 29 "NotaryHallModel" "signed" "[I" ∈ z_ws := z_in (i := 653) (by decide +kernel) rfl
theorem wfR_32 : Cond.fieldLink "NotaryHallModel" 32 "NotaryHallModel" "verdictOf" "[I" ∈ z_ws := z_in (i := 654) (by decide +kernel) rfl
theorem wfR_35 : Cond.fieldLink "NotaryHallModel" 35 "NotaryHallModel" "inputs" "[I" ∈ z_ws := z_in (i := 655) (by decide +kernel) rfl
theorem wfR_38 : Cond.fieldLink "NotaryHallModel" 38 "NotaryHallModel" "outputs" "[I" ∈ z_ws := z_in (i := 656) (by decide +kernel) rfl
theorem wfR_41 : Cond.fieldLink "NotaryHallModel" 41 "NotaryHallModel" "input" "[I" ∈ z_ws := z_in (i := 657) (by decide +kernel) rfl
theorem wfR_44 : Cond.fieldLink "NotaryHallModel" 44 "NotaryHallModel" "kindOf" "[I" ∈ z_ws := z_in (i := 658) (by decide +kernel) rfl
theorem wfR_47 : Cond.fieldLink "NotaryHallModel" 47 "NotaryHallModel" "first" "[I" ∈ z_ws := z_in (i := 659) (by decide +kernel) rfl
theorem wfR_50 : Cond.fieldLink "NotaryHallModel" 50 "NotaryHallModel" "second" "[I" ∈ z_ws := z_in (i := 660) (by decide +kernel) rfl
theorem wfR_53 : Cond.fieldLink "NotaryHallModel" 53 "NotaryHallModel" "amountOf" "[I" ∈ z_ws := z_in (i := 661) (by decide +kernel) rfl
theorem wfR_56 : Cond.fieldLink "NotaryHallModel" 56 "NotaryHallModel" "boundTo" "[I" ∈ z_ws := z_in (i := 662) (by decide +kernel) rfl
theorem wfR_59 : Cond.fieldLink "NotaryHallModel" 59 "NotaryHallModel" "usedBy" "[I" ∈ z_ws := z_in (i := 663) (by decide +kernel) rfl
theorem wfR_62 : Cond.fieldLink "NotaryHallModel" 62 "NotaryHallModel" "knows" "[I" ∈ z_ws := z_in (i := 664) (by decide +kernel) rfl
theorem wfR_65 : Cond.fieldLink "NotaryHallModel" 65 "NotaryHallModel" "decided" "[I" ∈ z_ws := z_in (i := 665) (by decide +kernel) rfl
theorem wfR_68 : Cond.fieldLink "NotaryHallModel" 68 "NotaryHallModel" "fetches" "[I" ∈ z_ws := z_in (i := 666) (by decide +kernel) rfl
theorem wfR_71 : Cond.fieldLink "NotaryHallModel" 71 "NotaryHallModel" "declines" "[Z" ∈ z_ws := z_in (i := 667) (by decide +kernel) rfl
theorem wfR_74 : Cond.fieldLink "NotaryHallModel" 74 "NotaryHallModel" "waiting" "[I" ∈ z_ws := z_in (i := 668) (by decide +kernel) rfl
theorem wfR_143 : Cond.fieldLink "NotaryHallModel" 143 "NotaryHallModel" "waits" "I" ∈ z_ws := z_in (i := 669) (by decide +kernel) rfl
theorem wfR_172 : Cond.fieldLink "NotaryHallModel" 172 "NotaryHallModel" "clock" "I" ∈ z_ws := z_in (i := 670) (by decide +kernel) rfl
theorem wfR_77 : Cond.fieldLink "NotaryHallModel" 77 "NotaryHallModel" "before" "[Z" ∈ z_ws := z_in (i := 671) (by decide +kernel) rfl
theorem wfR_80 : Cond.fieldLink "NotaryHallModel" 80 "NotaryHallModel" "mix" "[I" ∈ z_ws := z_in (i := 672) (by decide +kernel) rfl
theorem wa_boolean : Cond.arrayClass .boolean ∈ z_ws := z_in (i := 728) (by decide +kernel) rfl
theorem wmW_17 : Cond.methodLink "NotaryHallLaw" 17 ⟨"NotaryHallModel", "begin", "(IIII)I"⟩ ∈ z_ws := z_in (i := 729) (by decide +kernel) rfl
theorem wiR_begin : Cond.instanceMethod ⟨"NotaryHallModel", "begin", "(IIII)I"⟩ ∈ z_ws := z_in (i := 730) (by decide +kernel) rfl
theorem wvR_begin : Cond.selects "NotaryHallModel" ⟨"NotaryHallModel", "begin", "(IIII)I"⟩ ⟨"NotaryHallModel", "begin", "(IIII)I"⟩ ∈ z_ws := z_in (i := 731) (by decide +kernel) rfl
theorem wmR_91 : Cond.methodLink "NotaryHallModel" 91 ⟨"NotaryHallModel", "isNode", "(I)Z"⟩ ∈ z_ws := z_in (i := 733) (by decide +kernel) rfl
theorem wiR_isNode : Cond.instanceMethod ⟨"NotaryHallModel", "isNode", "(I)Z"⟩ ∈ z_ws := z_in (i := 735) (by decide +kernel) rfl
theorem wkR_94 : Cond.constant "NotaryHallModel" 94 1000000 ∈ z_ws := z_in (i := 737) (by decide +kernel) rfl
theorem wmW_22 : Cond.methodLink "NotaryHallLaw" 22 ⟨"NotaryHallModel", "consume", "(III)I"⟩ ∈ z_ws := z_in (i := 738) (by decide +kernel) rfl
theorem wiR_consume : Cond.instanceMethod ⟨"NotaryHallModel", "consume", "(III)I"⟩ ∈ z_ws := z_in (i := 739) (by decide +kernel) rfl
theorem wvR_consume : Cond.selects "NotaryHallModel" ⟨"NotaryHallModel", "consume", "(III)I"⟩ ⟨"NotaryHallModel", "consume", "(III)I"⟩ ∈ z_ws := z_in (i := 740) (by decide +kernel) rfl
theorem wmR_87 : Cond.methodLink "NotaryHallModel" 87 ⟨"NotaryHallModel", "isTx", "(I)Z"⟩ ∈ z_ws := z_in (i := 742) (by decide +kernel) rfl
theorem wiR_isTx : Cond.instanceMethod ⟨"NotaryHallModel", "isTx", "(I)Z"⟩ ∈ z_ws := z_in (i := 744) (by decide +kernel) rfl
theorem wmR_95 : Cond.methodLink "NotaryHallModel" 95 ⟨"NotaryHallModel", "isState", "(II)Z"⟩ ∈ z_ws := z_in (i := 746) (by decide +kernel) rfl
theorem wiR_isState : Cond.instanceMethod ⟨"NotaryHallModel", "isState", "(II)Z"⟩ ∈ z_ws := z_in (i := 748) (by decide +kernel) rfl
theorem wmR_99 : Cond.methodLink "NotaryHallModel" 99 ⟨"NotaryHallModel", "isInput", "(II)Z"⟩ ∈ z_ws := z_in (i := 750) (by decide +kernel) rfl
theorem wiR_isInput : Cond.instanceMethod ⟨"NotaryHallModel", "isInput", "(II)Z"⟩ ∈ z_ws := z_in (i := 752) (by decide +kernel) rfl
theorem wmR_102 : Cond.methodLink "NotaryHallModel" 102 ⟨"NotaryHallModel", "addInput", "(II)V"⟩ ∈ z_ws := z_in (i := 754) (by decide +kernel) rfl
theorem wiR_addInput : Cond.instanceMethod ⟨"NotaryHallModel", "addInput", "(II)V"⟩ ∈ z_ws := z_in (i := 756) (by decide +kernel) rfl
theorem wmW_27 : Cond.methodLink "NotaryHallLaw" 27 ⟨"NotaryHallModel", "produce", "(IIIII)I"⟩ ∈ z_ws := z_in (i := 758) (by decide +kernel) rfl
theorem wiR_produce : Cond.instanceMethod ⟨"NotaryHallModel", "produce", "(IIIII)I"⟩ ∈ z_ws := z_in (i := 759) (by decide +kernel) rfl
theorem wvR_produce : Cond.selects "NotaryHallModel" ⟨"NotaryHallModel", "produce", "(IIIII)I"⟩ ⟨"NotaryHallModel", "produce", "(IIIII)I"⟩ ∈ z_ws := z_in (i := 760) (by decide +kernel) rfl
theorem wmR_106 : Cond.methodLink "NotaryHallModel" 106 ⟨"NotaryHallModel", "addOutput", "(IIIII)V"⟩ ∈ z_ws := z_in (i := 762) (by decide +kernel) rfl
theorem wiR_addOutput : Cond.instanceMethod ⟨"NotaryHallModel", "addOutput", "(IIIII)V"⟩ ∈ z_ws := z_in (i := 764) (by decide +kernel) rfl
theorem wmW_31 : Cond.methodLink "NotaryHallLaw" 31 ⟨"NotaryHallModel", "bind", "(III)I"⟩ ∈ z_ws := z_in (i := 766) (by decide +kernel) rfl
theorem wiR_bind : Cond.instanceMethod ⟨"NotaryHallModel", "bind", "(III)I"⟩ ∈ z_ws := z_in (i := 767) (by decide +kernel) rfl
theorem wvR_bind : Cond.selects "NotaryHallModel" ⟨"NotaryHallModel", "bind", "(III)I"⟩ ⟨"NotaryHallModel", "bind", "(III)I"⟩ ∈ z_ws := z_in (i := 768) (by decide +kernel) rfl
theorem wmW_35 : Cond.methodLink "NotaryHallLaw" 35 ⟨"NotaryHallModel", "pay", "(IIII)I"⟩ ∈ z_ws := z_in (i := 770) (by decide +kernel) rfl
theorem wiR_pay : Cond.instanceMethod ⟨"NotaryHallModel", "pay", "(IIII)I"⟩ ∈ z_ws := z_in (i := 771) (by decide +kernel) rfl
theorem wvR_pay : Cond.selects "NotaryHallModel" ⟨"NotaryHallModel", "pay", "(IIII)I"⟩ ⟨"NotaryHallModel", "pay", "(IIII)I"⟩ ∈ z_ws := z_in (i := 772) (by decide +kernel) rfl
theorem wmR_119 : Cond.methodLink "NotaryHallModel" 119 ⟨"NotaryHallModel", "coin", "(III)Z"⟩ ∈ z_ws := z_in (i := 774) (by decide +kernel) rfl
theorem wiR_coin : Cond.instanceMethod ⟨"NotaryHallModel", "coin", "(III)Z"⟩ ∈ z_ws := z_in (i := 776) (by decide +kernel) rfl
theorem wmR_113 : Cond.methodLink "NotaryHallModel" 113 ⟨"NotaryHallModel", "inVault", "(II)Z"⟩ ∈ z_ws := z_in (i := 778) (by decide +kernel) rfl
theorem wiR_inVault : Cond.instanceMethod ⟨"NotaryHallModel", "inVault", "(II)Z"⟩ ∈ z_ws := z_in (i := 780) (by decide +kernel) rfl
theorem wmR_110 : Cond.methodLink "NotaryHallModel" 110 ⟨"NotaryHallModel", "concerns", "(II)Z"⟩ ∈ z_ws := z_in (i := 782) (by decide +kernel) rfl
theorem wiR_concerns : Cond.instanceMethod ⟨"NotaryHallModel", "concerns", "(II)Z"⟩ ∈ z_ws := z_in (i := 784) (by decide +kernel) rfl
theorem wmR_116 : Cond.methodLink "NotaryHallModel" 116 ⟨"NotaryHallModel", "held", "(II)Z"⟩ ∈ z_ws := z_in (i := 786) (by decide +kernel) rfl
theorem wiR_held : Cond.instanceMethod ⟨"NotaryHallModel", "held", "(II)Z"⟩ ∈ z_ws := z_in (i := 788) (by decide +kernel) rfl
theorem wmW_40 : Cond.methodLink "NotaryHallLaw" 40 ⟨"NotaryHallModel", "drop", "(I)Z"⟩ ∈ z_ws := z_in (i := 790) (by decide +kernel) rfl
theorem wiR_drop : Cond.instanceMethod ⟨"NotaryHallModel", "drop", "(I)Z"⟩ ∈ z_ws := z_in (i := 791) (by decide +kernel) rfl
theorem wvR_drop : Cond.selects "NotaryHallModel" ⟨"NotaryHallModel", "drop", "(I)Z"⟩ ⟨"NotaryHallModel", "drop", "(I)Z"⟩ ∈ z_ws := z_in (i := 792) (by decide +kernel) rfl
theorem wmW_45 : Cond.methodLink "NotaryHallLaw" 45 ⟨"NotaryHallModel", "propose", "(IZ)I"⟩ ∈ z_ws := z_in (i := 794) (by decide +kernel) rfl
theorem wiR_propose : Cond.instanceMethod ⟨"NotaryHallModel", "propose", "(IZ)I"⟩ ∈ z_ws := z_in (i := 795) (by decide +kernel) rfl
theorem wvR_propose : Cond.selects "NotaryHallModel" ⟨"NotaryHallModel", "propose", "(IZ)I"⟩ ⟨"NotaryHallModel", "propose", "(IZ)I"⟩ ∈ z_ws := z_in (i := 796) (by decide +kernel) rfl
theorem wmR_137 : Cond.methodLink "NotaryHallModel" 137 ⟨"NotaryHallModel", "valid", "(I)Z"⟩ ∈ z_ws := z_in (i := 798) (by decide +kernel) rfl
theorem wiR_valid : Cond.instanceMethod ⟨"NotaryHallModel", "valid", "(I)Z"⟩ ∈ z_ws := z_in (i := 800) (by decide +kernel) rfl
theorem wmR_140 : Cond.methodLink "NotaryHallModel" 140 ⟨"NotaryHallModel", "alone", "(I)Z"⟩ ∈ z_ws := z_in (i := 802) (by decide +kernel) rfl
theorem wiR_alone : Cond.instanceMethod ⟨"NotaryHallModel", "alone", "(I)Z"⟩ ∈ z_ws := z_in (i := 804) (by decide +kernel) rfl
theorem wmR_133 : Cond.methodLink "NotaryHallModel" 133 ⟨"NotaryHallModel", "needs", "(I)I"⟩ ∈ z_ws := z_in (i := 806) (by decide +kernel) rfl
theorem wiR_needs : Cond.instanceMethod ⟨"NotaryHallModel", "needs", "(I)I"⟩ ∈ z_ws := z_in (i := 808) (by decide +kernel) rfl
theorem wmR_130 : Cond.methodLink "NotaryHallModel" 130 ⟨"NotaryHallModel", "mustSign", "(II)Z"⟩ ∈ z_ws := z_in (i := 810) (by decide +kernel) rfl
theorem wiR_mustSign : Cond.instanceMethod ⟨"NotaryHallModel", "mustSign", "(II)Z"⟩ ∈ z_ws := z_in (i := 812) (by decide +kernel) rfl
theorem wmR_123 : Cond.methodLink "NotaryHallModel" 123 ⟨"NotaryHallModel", "gain", "(IIII)I"⟩ ∈ z_ws := z_in (i := 814) (by decide +kernel) rfl
theorem wiR_gain : Cond.instanceMethod ⟨"NotaryHallModel", "gain", "(IIII)I"⟩ ∈ z_ws := z_in (i := 816) (by decide +kernel) rfl
theorem wmR_127 : Cond.methodLink "NotaryHallModel" 127 ⟨"NotaryHallModel", "letDown", "(II)Z"⟩ ∈ z_ws := z_in (i := 818) (by decide +kernel) rfl
theorem wiR_letDown : Cond.instanceMethod ⟨"NotaryHallModel", "letDown", "(II)Z"⟩ ∈ z_ws := z_in (i := 820) (by decide +kernel) rfl
theorem wmR_146 : Cond.methodLink "NotaryHallModel" 146 ⟨"NotaryHallModel", "send", "(IIIII)I"⟩ ∈ z_ws := z_in (i := 822) (by decide +kernel) rfl
theorem wiR_send : Cond.instanceMethod ⟨"NotaryHallModel", "send", "(IIIII)I"⟩ ∈ z_ws := z_in (i := 824) (by decide +kernel) rfl
theorem wmW_49 : Cond.methodLink "NotaryHallLaw" 49 ⟨"NotaryHallModel", "deliver", "(IZ)I"⟩ ∈ z_ws := z_in (i := 826) (by decide +kernel) rfl
theorem wiR_deliver : Cond.instanceMethod ⟨"NotaryHallModel", "deliver", "(IZ)I"⟩ ∈ z_ws := z_in (i := 827) (by decide +kernel) rfl
theorem wvR_deliver : Cond.selects "NotaryHallModel" ⟨"NotaryHallModel", "deliver", "(IZ)I"⟩ ⟨"NotaryHallModel", "deliver", "(IZ)I"⟩ ∈ z_ws := z_in (i := 828) (by decide +kernel) rfl
theorem wmR_150 : Cond.methodLink "NotaryHallModel" 150 ⟨"NotaryHallModel", "ask", "(IIZ)V"⟩ ∈ z_ws := z_in (i := 830) (by decide +kernel) rfl
theorem wiR_ask : Cond.instanceMethod ⟨"NotaryHallModel", "ask", "(IIZ)V"⟩ ∈ z_ws := z_in (i := 832) (by decide +kernel) rfl
theorem wmR_169 : Cond.methodLink "NotaryHallModel" 169 ⟨"NotaryHallModel", "fetch", "(II)V"⟩ ∈ z_ws := z_in (i := 834) (by decide +kernel) rfl
theorem wiR_fetch : Cond.instanceMethod ⟨"NotaryHallModel", "fetch", "(II)V"⟩ ∈ z_ws := z_in (i := 836) (by decide +kernel) rfl
theorem wmR_154 : Cond.methodLink "NotaryHallModel" 154 ⟨"NotaryHallModel", "reply", "(IIIZ)I"⟩ ∈ z_ws := z_in (i := 838) (by decide +kernel) rfl
theorem wiR_reply : Cond.instanceMethod ⟨"NotaryHallModel", "reply", "(IIIZ)I"⟩ ∈ z_ws := z_in (i := 840) (by decide +kernel) rfl
theorem wmR_158 : Cond.methodLink "NotaryHallModel" 158 ⟨"NotaryHallModel", "notarise", "(I)V"⟩ ∈ z_ws := z_in (i := 842) (by decide +kernel) rfl
theorem wiR_notarise : Cond.instanceMethod ⟨"NotaryHallModel", "notarise", "(I)V"⟩ ∈ z_ws := z_in (i := 844) (by decide +kernel) rfl
theorem wmR_178 : Cond.methodLink "NotaryHallModel" 178 ⟨"NotaryHallModel", "judge", "(I)I"⟩ ∈ z_ws := z_in (i := 846) (by decide +kernel) rfl
theorem wiR_judge : Cond.instanceMethod ⟨"NotaryHallModel", "judge", "(I)I"⟩ ∈ z_ws := z_in (i := 848) (by decide +kernel) rfl
theorem wmR_175 : Cond.methodLink "NotaryHallModel" 175 ⟨"NotaryHallModel", "sound", "(I)Z"⟩ ∈ z_ws := z_in (i := 850) (by decide +kernel) rfl
theorem wiR_sound : Cond.instanceMethod ⟨"NotaryHallModel", "sound", "(I)Z"⟩ ∈ z_ws := z_in (i := 852) (by decide +kernel) rfl
theorem wmR_162 : Cond.methodLink "NotaryHallModel" 162 ⟨"NotaryHallModel", "hear", "(IIZ)I"⟩ ∈ z_ws := z_in (i := 854) (by decide +kernel) rfl
theorem wiR_hear : Cond.instanceMethod ⟨"NotaryHallModel", "hear", "(IIZ)I"⟩ ∈ z_ws := z_in (i := 856) (by decide +kernel) rfl
theorem wmR_181 : Cond.methodLink "NotaryHallModel" 181 ⟨"NotaryHallModel", "told", "(II)Z"⟩ ∈ z_ws := z_in (i := 858) (by decide +kernel) rfl
theorem wiR_told : Cond.instanceMethod ⟨"NotaryHallModel", "told", "(II)Z"⟩ ∈ z_ws := z_in (i := 860) (by decide +kernel) rfl
theorem wmR_166 : Cond.methodLink "NotaryHallModel" 166 ⟨"NotaryHallModel", "close", "(IIZ)I"⟩ ∈ z_ws := z_in (i := 862) (by decide +kernel) rfl
theorem wiR_close : Cond.instanceMethod ⟨"NotaryHallModel", "close", "(IIZ)I"⟩ ∈ z_ws := z_in (i := 864) (by decide +kernel) rfl
theorem wmW_54 : Cond.methodLink "NotaryHallLaw" 54 ⟨"NotaryHallModel", "message", "(I)I"⟩ ∈ z_ws := z_in (i := 866) (by decide +kernel) rfl
theorem wiR_message : Cond.instanceMethod ⟨"NotaryHallModel", "message", "(I)I"⟩ ∈ z_ws := z_in (i := 867) (by decide +kernel) rfl
theorem wvR_message : Cond.selects "NotaryHallModel" ⟨"NotaryHallModel", "message", "(I)I"⟩ ⟨"NotaryHallModel", "message", "(I)I"⟩ ∈ z_ws := z_in (i := 868) (by decide +kernel) rfl
theorem wmW_58 : Cond.methodLink "NotaryHallLaw" 58 ⟨"NotaryHallModel", "tick", "(I)I"⟩ ∈ z_ws := z_in (i := 870) (by decide +kernel) rfl
theorem wiR_tick : Cond.instanceMethod ⟨"NotaryHallModel", "tick", "(I)I"⟩ ∈ z_ws := z_in (i := 871) (by decide +kernel) rfl
theorem wvR_tick : Cond.selects "NotaryHallModel" ⟨"NotaryHallModel", "tick", "(I)I"⟩ ⟨"NotaryHallModel", "tick", "(I)I"⟩ ∈ z_ws := z_in (i := 872) (by decide +kernel) rfl
theorem wmW_63 : Cond.methodLink "NotaryHallLaw" 63 ⟨"NotaryHallModel", "consent", "(IIZ)Z"⟩ ∈ z_ws := z_in (i := 874) (by decide +kernel) rfl
theorem wiR_consent : Cond.instanceMethod ⟨"NotaryHallModel", "consent", "(IIZ)Z"⟩ ∈ z_ws := z_in (i := 875) (by decide +kernel) rfl
theorem wvR_consent : Cond.selects "NotaryHallModel" ⟨"NotaryHallModel", "consent", "(IIZ)Z"⟩ ⟨"NotaryHallModel", "consent", "(IIZ)Z"⟩ ∈ z_ws := z_in (i := 876) (by decide +kernel) rfl
theorem wmW_67 : Cond.methodLink "NotaryHallLaw" 67 ⟨"NotaryHallModel", "stage", "(I)I"⟩ ∈ z_ws := z_in (i := 878) (by decide +kernel) rfl
theorem wiR_stage : Cond.instanceMethod ⟨"NotaryHallModel", "stage", "(I)I"⟩ ∈ z_ws := z_in (i := 879) (by decide +kernel) rfl
theorem wvR_stage : Cond.selects "NotaryHallModel" ⟨"NotaryHallModel", "stage", "(I)I"⟩ ⟨"NotaryHallModel", "stage", "(I)I"⟩ ∈ z_ws := z_in (i := 880) (by decide +kernel) rfl
theorem wmW_71 : Cond.methodLink "NotaryHallLaw" 71 ⟨"NotaryHallModel", "signatures", "(IZ)I"⟩ ∈ z_ws := z_in (i := 882) (by decide +kernel) rfl
theorem wiR_signatures : Cond.instanceMethod ⟨"NotaryHallModel", "signatures", "(IZ)I"⟩ ∈ z_ws := z_in (i := 883) (by decide +kernel) rfl
theorem wvR_signatures : Cond.selects "NotaryHallModel" ⟨"NotaryHallModel", "signatures", "(IZ)I"⟩ ⟨"NotaryHallModel", "signatures", "(IZ)I"⟩ ∈ z_ws := z_in (i := 884) (by decide +kernel) rfl
theorem wmW_75 : Cond.methodLink "NotaryHallLaw" 75 ⟨"NotaryHallModel", "verdict", "(I)I"⟩ ∈ z_ws := z_in (i := 886) (by decide +kernel) rfl
theorem wiR_verdict : Cond.instanceMethod ⟨"NotaryHallModel", "verdict", "(I)I"⟩ ∈ z_ws := z_in (i := 887) (by decide +kernel) rfl
theorem wvR_verdict : Cond.selects "NotaryHallModel" ⟨"NotaryHallModel", "verdict", "(I)I"⟩ ⟨"NotaryHallModel", "verdict", "(I)I"⟩ ∈ z_ws := z_in (i := 888) (by decide +kernel) rfl
theorem wmW_80 : Cond.methodLink "NotaryHallLaw" 80 ⟨"NotaryHallModel", "spender", "(II)I"⟩ ∈ z_ws := z_in (i := 890) (by decide +kernel) rfl
theorem wiR_spender : Cond.instanceMethod ⟨"NotaryHallModel", "spender", "(II)I"⟩ ∈ z_ws := z_in (i := 891) (by decide +kernel) rfl
theorem wvR_spender : Cond.selects "NotaryHallModel" ⟨"NotaryHallModel", "spender", "(II)I"⟩ ⟨"NotaryHallModel", "spender", "(II)I"⟩ ∈ z_ws := z_in (i := 892) (by decide +kernel) rfl
theorem wmW_84 : Cond.methodLink "NotaryHallLaw" 84 ⟨"NotaryHallModel", "standing", "(II)I"⟩ ∈ z_ws := z_in (i := 894) (by decide +kernel) rfl
theorem wiR_standing : Cond.instanceMethod ⟨"NotaryHallModel", "standing", "(II)I"⟩ ∈ z_ws := z_in (i := 895) (by decide +kernel) rfl
theorem wvR_standing : Cond.selects "NotaryHallModel" ⟨"NotaryHallModel", "standing", "(II)I"⟩ ⟨"NotaryHallModel", "standing", "(II)I"⟩ ∈ z_ws := z_in (i := 896) (by decide +kernel) rfl
theorem wmW_88 : Cond.methodLink "NotaryHallLaw" 88 ⟨"NotaryHallModel", "vault", "(II)I"⟩ ∈ z_ws := z_in (i := 898) (by decide +kernel) rfl
theorem wiR_vault : Cond.instanceMethod ⟨"NotaryHallModel", "vault", "(II)I"⟩ ∈ z_ws := z_in (i := 899) (by decide +kernel) rfl
theorem wvR_vault : Cond.selects "NotaryHallModel" ⟨"NotaryHallModel", "vault", "(II)I"⟩ ⟨"NotaryHallModel", "vault", "(II)I"⟩ ∈ z_ws := z_in (i := 900) (by decide +kernel) rfl
theorem wmW_92 : Cond.methodLink "NotaryHallLaw" 92 ⟨"NotaryHallModel", "balance", "(II)I"⟩ ∈ z_ws := z_in (i := 902) (by decide +kernel) rfl
theorem wiR_balance : Cond.instanceMethod ⟨"NotaryHallModel", "balance", "(II)I"⟩ ∈ z_ws := z_in (i := 903) (by decide +kernel) rfl
theorem wvR_balance : Cond.selects "NotaryHallModel" ⟨"NotaryHallModel", "balance", "(II)I"⟩ ⟨"NotaryHallModel", "balance", "(II)I"⟩ ∈ z_ws := z_in (i := 904) (by decide +kernel) rfl
theorem wmW_96 : Cond.methodLink "NotaryHallLaw" 96 ⟨"NotaryHallModel", "fetched", "(I)I"⟩ ∈ z_ws := z_in (i := 906) (by decide +kernel) rfl
theorem wiR_fetched : Cond.instanceMethod ⟨"NotaryHallModel", "fetched", "(I)I"⟩ ∈ z_ws := z_in (i := 907) (by decide +kernel) rfl
theorem wvR_fetched : Cond.selects "NotaryHallModel" ⟨"NotaryHallModel", "fetched", "(I)I"⟩ ⟨"NotaryHallModel", "fetched", "(I)I"⟩ ∈ z_ws := z_in (i := 908) (by decide +kernel) rfl
theorem wmW_100 : Cond.methodLink "NotaryHallLaw" 100 ⟨"NotaryHallModel", "tree", "(III)I"⟩ ∈ z_ws := z_in (i := 910) (by decide +kernel) rfl
theorem wiR_tree : Cond.instanceMethod ⟨"NotaryHallModel", "tree", "(III)I"⟩ ∈ z_ws := z_in (i := 911) (by decide +kernel) rfl
theorem wvR_tree : Cond.selects "NotaryHallModel" ⟨"NotaryHallModel", "tree", "(III)I"⟩ ⟨"NotaryHallModel", "tree", "(III)I"⟩ ∈ z_ws := z_in (i := 912) (by decide +kernel) rfl
theorem wmR_185 : Cond.methodLink "NotaryHallModel" 185 ⟨"NotaryHallModel", "leaf", "(II)I"⟩ ∈ z_ws := z_in (i := 914) (by decide +kernel) rfl
theorem wiR_leaf : Cond.instanceMethod ⟨"NotaryHallModel", "leaf", "(II)I"⟩ ∈ z_ws := z_in (i := 916) (by decide +kernel) rfl
theorem wkR_184 : Cond.constant "NotaryHallModel" 184 49152 ∈ z_ws := z_in (i := 918) (by decide +kernel) rfl
theorem wvH_find : Cond.selects "NotaryHall" ⟨"NotaryHall", "find", "(I)LNotaryHall$Transaction;"⟩ ⟨"NotaryHall", "find", "(I)LNotaryHall$Transaction;"⟩ ∈ z_ws := z_in (i := 0) (by decide +kernel) rfl
theorem wvH_findState : Cond.selects "NotaryHall" ⟨"NotaryHall", "findState", "(II)LNotaryHall$State;"⟩ ⟨"NotaryHall", "findState", "(II)LNotaryHall$State;"⟩ ∈ z_ws := z_in (i := 1) (by decide +kernel) rfl
theorem wvH_stateNumbersEnd : Cond.selects "NotaryHall" ⟨"NotaryHall", "stateNumbersEnd", "()I"⟩ ⟨"NotaryHall", "stateNumbersEnd", "()I"⟩ ∈ z_ws := z_in (i := 2) (by decide +kernel) rfl
theorem wvH_stateNumbered : Cond.selects "NotaryHall" ⟨"NotaryHall", "stateNumbered", "(I)LNotaryHall$State;"⟩ ⟨"NotaryHall", "stateNumbered", "(I)LNotaryHall$State;"⟩ ∈ z_ws := z_in (i := 3) (by decide +kernel) rfl
theorem wvH_isCoin : Cond.selects "NotaryHall" ⟨"NotaryHall", "isCoin", "(LNotaryHall$State;ILNotaryHall$Transaction;)Z"⟩ ⟨"NotaryHall", "isCoin", "(LNotaryHall$State;ILNotaryHall$Transaction;)Z"⟩ ∈ z_ws := z_in (i := 4) (by decide +kernel) rfl
theorem wvH_isInVault : Cond.selects "NotaryHall" ⟨"NotaryHall", "isInVault", "(LNotaryHall$State;I)Z"⟩ ⟨"NotaryHall", "isInVault", "(LNotaryHall$State;I)Z"⟩ ∈ z_ws := z_in (i := 5) (by decide +kernel) rfl
theorem wvH_isKnownInput : Cond.selects "NotaryHall" ⟨"NotaryHall", "isKnownInput", "(LNotaryHall$State;I)Z"⟩ ⟨"NotaryHall", "isKnownInput", "(LNotaryHall$State;I)Z"⟩ ∈ z_ws := z_in (i := 6) (by decide +kernel) rfl
theorem wvH_isHeld : Cond.selects "NotaryHall" ⟨"NotaryHall", "isHeld", "(LNotaryHall$State;I)Z"⟩ ⟨"NotaryHall", "isHeld", "(LNotaryHall$State;I)Z"⟩ ∈ z_ws := z_in (i := 7) (by decide +kernel) rfl
theorem wvH_takeCoins : Cond.selects "NotaryHall" ⟨"NotaryHall", "takeCoins", "(LNotaryHall$Transaction;I)V"⟩ ⟨"NotaryHall", "takeCoins", "(LNotaryHall$Transaction;I)V"⟩ ∈ z_ws := z_in (i := 8) (by decide +kernel) rfl
theorem wvT_allowsInput : Cond.selects "NotaryHall$Transaction" ⟨"NotaryHall$Transaction", "allowsInput", "(LNotaryHall$State;)Z"⟩ ⟨"NotaryHall$Transaction", "allowsInput", "(LNotaryHall$State;)Z"⟩ ∈ z_ws := z_in (i := 9) (by decide +kernel) rfl
theorem wvT_mustSign : Cond.selects "NotaryHall$Transaction" ⟨"NotaryHall$Transaction", "mustSign", "(I)Z"⟩ ⟨"NotaryHall$Transaction", "mustSign", "(I)Z"⟩ ∈ z_ws := z_in (i := 10) (by decide +kernel) rfl
theorem wvT_owesMore : Cond.selects "NotaryHall$Transaction" ⟨"NotaryHall$Transaction", "owesMore", "(I)Z"⟩ ⟨"NotaryHall$Transaction", "owesMore", "(I)Z"⟩ ∈ z_ws := z_in (i := 11) (by decide +kernel) rfl
theorem wvT_isLetDown : Cond.selects "NotaryHall$Transaction" ⟨"NotaryHall$Transaction", "isLetDown", "(I)Z"⟩ ⟨"NotaryHall$Transaction", "isLetDown", "(I)Z"⟩ ∈ z_ws := z_in (i := 12) (by decide +kernel) rfl
theorem wvH_sendNotarise : Cond.selects "NotaryHall" ⟨"NotaryHall", "sendNotarise", "(LNotaryHall$Transaction;)I"⟩ ⟨"NotaryHall", "sendNotarise", "(LNotaryHall$Transaction;)I"⟩ ∈ z_ws := z_in (i := 13) (by decide +kernel) rfl
theorem wvH_send : Cond.selects "NotaryHall" ⟨"NotaryHall", "send", "(ILNotaryHall$Transaction;III)I"⟩ ⟨"NotaryHall", "send", "(ILNotaryHall$Transaction;III)I"⟩ ∈ z_ws := z_in (i := 14) (by decide +kernel) rfl
theorem wvB_isWaiting : Cond.selects "NotaryHall$Mailbox" ⟨"NotaryHall$Mailbox", "isWaiting", "(I)Z"⟩ ⟨"NotaryHall$Mailbox", "isWaiting", "(I)Z"⟩ ∈ z_ws := z_in (i := 15) (by decide +kernel) rfl
theorem wvH_sendToOthers : Cond.selects "NotaryHall" ⟨"NotaryHall", "sendToOthers", "(ILNotaryHall$Transaction;I)I"⟩ ⟨"NotaryHall", "sendToOthers", "(ILNotaryHall$Transaction;I)I"⟩ ∈ z_ws := z_in (i := 16) (by decide +kernel) rfl
theorem wvH_receive : Cond.selects "NotaryHall" ⟨"NotaryHall", "receive", "(IZ)I"⟩ ⟨"NotaryHall", "receive", "(IZ)I"⟩ ∈ z_ws := z_in (i := 17) (by decide +kernel) rfl
theorem wvH_receiveAsk : Cond.selects "NotaryHall" ⟨"NotaryHall", "receiveAsk", "(LNotaryHall$Transaction;IZ)I"⟩ ⟨"NotaryHall", "receiveAsk", "(LNotaryHall$Transaction;IZ)I"⟩ ∈ z_ws := z_in (i := 18) (by decide +kernel) rfl
theorem wvH_receiveReply : Cond.selects "NotaryHall" ⟨"NotaryHall", "receiveReply", "(LNotaryHall$Transaction;IIZ)I"⟩ ⟨"NotaryHall", "receiveReply", "(LNotaryHall$Transaction;IIZ)I"⟩ ∈ z_ws := z_in (i := 19) (by decide +kernel) rfl
theorem wvH_receiveNotarise : Cond.selects "NotaryHall" ⟨"NotaryHall", "receiveNotarise", "(LNotaryHall$Transaction;)I"⟩ ⟨"NotaryHall", "receiveNotarise", "(LNotaryHall$Transaction;)I"⟩ ∈ z_ws := z_in (i := 20) (by decide +kernel) rfl
theorem wvH_judge : Cond.selects "NotaryHall" ⟨"NotaryHall", "judge", "(LNotaryHall$Transaction;)I"⟩ ⟨"NotaryHall", "judge", "(LNotaryHall$Transaction;)I"⟩ ∈ z_ws := z_in (i := 21) (by decide +kernel) rfl
theorem wvH_isAnyInputUsedUp : Cond.selects "NotaryHall" ⟨"NotaryHall", "isAnyInputUsedUp", "(LNotaryHall$Transaction;)Z"⟩ ⟨"NotaryHall", "isAnyInputUsedUp", "(LNotaryHall$Transaction;)Z"⟩ ∈ z_ws := z_in (i := 22) (by decide +kernel) rfl
theorem wvH_useUpInputs : Cond.selects "NotaryHall" ⟨"NotaryHall", "useUpInputs", "(LNotaryHall$Transaction;)V"⟩ ⟨"NotaryHall", "useUpInputs", "(LNotaryHall$Transaction;)V"⟩ ∈ z_ws := z_in (i := 23) (by decide +kernel) rfl
theorem wvH_receiveVerdict : Cond.selects "NotaryHall" ⟨"NotaryHall", "receiveVerdict", "(LNotaryHall$Transaction;IZ)I"⟩ ⟨"NotaryHall", "receiveVerdict", "(LNotaryHall$Transaction;IZ)I"⟩ ∈ z_ws := z_in (i := 24) (by decide +kernel) rfl
theorem wvH_settle : Cond.selects "NotaryHall" ⟨"NotaryHall", "settle", "(LNotaryHall$Transaction;I)V"⟩ ⟨"NotaryHall", "settle", "(LNotaryHall$Transaction;I)V"⟩ ∈ z_ws := z_in (i := 25) (by decide +kernel) rfl
theorem wvH_receiveFinality : Cond.selects "NotaryHall" ⟨"NotaryHall", "receiveFinality", "(LNotaryHall$Transaction;IZ)I"⟩ ⟨"NotaryHall", "receiveFinality", "(LNotaryHall$Transaction;IZ)I"⟩ ∈ z_ws := z_in (i := 26) (by decide +kernel) rfl
theorem wvT_inputLeaf : Cond.selects "NotaryHall$Transaction" ⟨"NotaryHall$Transaction", "inputLeaf", "(I)I"⟩ ⟨"NotaryHall$Transaction", "inputLeaf", "(I)I"⟩ ∈ z_ws := z_in (i := 27) (by decide +kernel) rfl
theorem wvT_outputLeaf : Cond.selects "NotaryHall$Transaction" ⟨"NotaryHall$Transaction", "outputLeaf", "(I)I"⟩ ⟨"NotaryHall$Transaction", "outputLeaf", "(I)I"⟩ ∈ z_ws := z_in (i := 28) (by decide +kernel) rfl
theorem wvR_isNode : Cond.selects "NotaryHallModel" ⟨"NotaryHallModel", "isNode", "(I)Z"⟩ ⟨"NotaryHallModel", "isNode", "(I)Z"⟩ ∈ z_ws := z_in (i := 29) (by decide +kernel) rfl
theorem wvR_isTx : Cond.selects "NotaryHallModel" ⟨"NotaryHallModel", "isTx", "(I)Z"⟩ ⟨"NotaryHallModel", "isTx", "(I)Z"⟩ ∈ z_ws := z_in (i := 30) (by decide +kernel) rfl
theorem wvR_isState : Cond.selects "NotaryHallModel" ⟨"NotaryHallModel", "isState", "(II)Z"⟩ ⟨"NotaryHallModel", "isState", "(II)Z"⟩ ∈ z_ws := z_in (i := 31) (by decide +kernel) rfl
theorem wvR_isInput : Cond.selects "NotaryHallModel" ⟨"NotaryHallModel", "isInput", "(II)Z"⟩ ⟨"NotaryHallModel", "isInput", "(II)Z"⟩ ∈ z_ws := z_in (i := 32) (by decide +kernel) rfl
theorem wvR_addInput : Cond.selects "NotaryHallModel" ⟨"NotaryHallModel", "addInput", "(II)V"⟩ ⟨"NotaryHallModel", "addInput", "(II)V"⟩ ∈ z_ws := z_in (i := 33) (by decide +kernel) rfl
theorem wvR_addOutput : Cond.selects "NotaryHallModel" ⟨"NotaryHallModel", "addOutput", "(IIIII)V"⟩ ⟨"NotaryHallModel", "addOutput", "(IIIII)V"⟩ ∈ z_ws := z_in (i := 34) (by decide +kernel) rfl
theorem wvR_coin : Cond.selects "NotaryHallModel" ⟨"NotaryHallModel", "coin", "(III)Z"⟩ ⟨"NotaryHallModel", "coin", "(III)Z"⟩ ∈ z_ws := z_in (i := 35) (by decide +kernel) rfl
theorem wvR_inVault : Cond.selects "NotaryHallModel" ⟨"NotaryHallModel", "inVault", "(II)Z"⟩ ⟨"NotaryHallModel", "inVault", "(II)Z"⟩ ∈ z_ws := z_in (i := 36) (by decide +kernel) rfl
theorem wvR_concerns : Cond.selects "NotaryHallModel" ⟨"NotaryHallModel", "concerns", "(II)Z"⟩ ⟨"NotaryHallModel", "concerns", "(II)Z"⟩ ∈ z_ws := z_in (i := 37) (by decide +kernel) rfl
theorem wvR_held : Cond.selects "NotaryHallModel" ⟨"NotaryHallModel", "held", "(II)Z"⟩ ⟨"NotaryHallModel", "held", "(II)Z"⟩ ∈ z_ws := z_in (i := 38) (by decide +kernel) rfl
theorem wvR_valid : Cond.selects "NotaryHallModel" ⟨"NotaryHallModel", "valid", "(I)Z"⟩ ⟨"NotaryHallModel", "valid", "(I)Z"⟩ ∈ z_ws := z_in (i := 39) (by decide +kernel) rfl
theorem wvR_alone : Cond.selects "NotaryHallModel" ⟨"NotaryHallModel", "alone", "(I)Z"⟩ ⟨"NotaryHallModel", "alone", "(I)Z"⟩ ∈ z_ws := z_in (i := 40) (by decide +kernel) rfl
theorem wvR_needs : Cond.selects "NotaryHallModel" ⟨"NotaryHallModel", "needs", "(I)I"⟩ ⟨"NotaryHallModel", "needs", "(I)I"⟩ ∈ z_ws := z_in (i := 41) (by decide +kernel) rfl
theorem wvR_mustSign : Cond.selects "NotaryHallModel" ⟨"NotaryHallModel", "mustSign", "(II)Z"⟩ ⟨"NotaryHallModel", "mustSign", "(II)Z"⟩ ∈ z_ws := z_in (i := 42) (by decide +kernel) rfl
theorem wvR_gain : Cond.selects "NotaryHallModel" ⟨"NotaryHallModel", "gain", "(IIII)I"⟩ ⟨"NotaryHallModel", "gain", "(IIII)I"⟩ ∈ z_ws := z_in (i := 43) (by decide +kernel) rfl
theorem wvR_letDown : Cond.selects "NotaryHallModel" ⟨"NotaryHallModel", "letDown", "(II)Z"⟩ ⟨"NotaryHallModel", "letDown", "(II)Z"⟩ ∈ z_ws := z_in (i := 44) (by decide +kernel) rfl
theorem wvR_send : Cond.selects "NotaryHallModel" ⟨"NotaryHallModel", "send", "(IIIII)I"⟩ ⟨"NotaryHallModel", "send", "(IIIII)I"⟩ ∈ z_ws := z_in (i := 45) (by decide +kernel) rfl
theorem wvR_ask : Cond.selects "NotaryHallModel" ⟨"NotaryHallModel", "ask", "(IIZ)V"⟩ ⟨"NotaryHallModel", "ask", "(IIZ)V"⟩ ∈ z_ws := z_in (i := 46) (by decide +kernel) rfl
theorem wvR_fetch : Cond.selects "NotaryHallModel" ⟨"NotaryHallModel", "fetch", "(II)V"⟩ ⟨"NotaryHallModel", "fetch", "(II)V"⟩ ∈ z_ws := z_in (i := 47) (by decide +kernel) rfl
theorem wvR_reply : Cond.selects "NotaryHallModel" ⟨"NotaryHallModel", "reply", "(IIIZ)I"⟩ ⟨"NotaryHallModel", "reply", "(IIIZ)I"⟩ ∈ z_ws := z_in (i := 48) (by decide +kernel) rfl
theorem wvR_notarise : Cond.selects "NotaryHallModel" ⟨"NotaryHallModel", "notarise", "(I)V"⟩ ⟨"NotaryHallModel", "notarise", "(I)V"⟩ ∈ z_ws := z_in (i := 49) (by decide +kernel) rfl
theorem wvR_judge : Cond.selects "NotaryHallModel" ⟨"NotaryHallModel", "judge", "(I)I"⟩ ⟨"NotaryHallModel", "judge", "(I)I"⟩ ∈ z_ws := z_in (i := 50) (by decide +kernel) rfl
theorem wvR_sound : Cond.selects "NotaryHallModel" ⟨"NotaryHallModel", "sound", "(I)Z"⟩ ⟨"NotaryHallModel", "sound", "(I)Z"⟩ ∈ z_ws := z_in (i := 51) (by decide +kernel) rfl
theorem wvR_hear : Cond.selects "NotaryHallModel" ⟨"NotaryHallModel", "hear", "(IIZ)I"⟩ ⟨"NotaryHallModel", "hear", "(IIZ)I"⟩ ∈ z_ws := z_in (i := 52) (by decide +kernel) rfl
theorem wvR_told : Cond.selects "NotaryHallModel" ⟨"NotaryHallModel", "told", "(II)Z"⟩ ⟨"NotaryHallModel", "told", "(II)Z"⟩ ∈ z_ws := z_in (i := 53) (by decide +kernel) rfl
theorem wvR_close : Cond.selects "NotaryHallModel" ⟨"NotaryHallModel", "close", "(IIZ)I"⟩ ⟨"NotaryHallModel", "close", "(IIZ)I"⟩ ∈ z_ws := z_in (i := 54) (by decide +kernel) rfl
theorem wvR_leaf : Cond.selects "NotaryHallModel" ⟨"NotaryHallModel", "leaf", "(II)I"⟩ ⟨"NotaryHallModel", "leaf", "(II)I"⟩ ∈ z_ws := z_in (i := 55) (by decide +kernel) rfl
abbrev mH_init : z_MD := (⟨"NotaryHall", "<init>", "()V"⟩, prog_1_method_1_code, 2, none, 0, fun _ => 0)
theorem woH_init : Cond.code mH_init.1 mH_init.2.1 mH_init.2.2.1 mH_init.2.2.2.1 ∈ z_ws := z_in (i := 71) (by decide +kernel) rfl
abbrev mJO_init : z_MD := (⟨"java/lang/Object", "<init>", "()V"⟩, object_method_1_code, 1, none, 0, fun _ => 0)
theorem woJO_init : Cond.code mJO_init.1 mJO_init.2.1 mJO_init.2.2.1 mJO_init.2.2.2.1 ∈ z_ws := z_in (i := 74) (by decide +kernel) rfl
abbrev mN_init : z_MD := (⟨"NotaryHall$Node", "<init>", "()V"⟩, prog_3_method_1_code, 1, none, 0, fun _ => 0)
theorem woN_init : Cond.code mN_init.1 mN_init.2.1 mN_init.2.2.1 mN_init.2.2.2.1 ∈ z_ws := z_in (i := 82) (by decide +kernel) rfl
abbrev mH_bit : z_MD := (⟨"NotaryHall", "bit", "(I)I"⟩, prog_1_method_48_code, 1, (some .int), 0, fun _ => 0)
theorem woH_bit : Cond.code mH_bit.1 mH_bit.2.1 mH_bit.2.2.1 mH_bit.2.2.2.1 ∈ z_ws := z_in (i := 86) (by decide +kernel) rfl
abbrev mB_init : z_MD := (⟨"NotaryHall$Mailbox", "<init>", "()V"⟩, prog_2_method_1_code, 1, none, 0, fun _ => 0)
theorem woB_init : Cond.code mB_init.1 mB_init.2.1 mB_init.2.2.1 mB_init.2.2.2.1 ∈ z_ws := z_in (i := 108) (by decide +kernel) rfl
abbrev mJA_fill : z_MD := (⟨"java/util/Arrays", "fill", "([II)V"⟩, prog_11_method_103_code, 4, none, 0, fun _ => 0)
theorem woJA_fill : Cond.code mJA_fill.1 mJA_fill.2.1 mJA_fill.2.2.1 mJA_fill.2.2.2.1 ∈ z_ws := z_in (i := 122) (by decide +kernel) rfl
abbrev mH_begin : z_MD := (⟨"NotaryHall", "begin", "(IIII)I"⟩, prog_1_method_2_code, 6, (some .int), 0, fun _ => 0)
theorem woH_begin : Cond.code mH_begin.1 mH_begin.2.1 mH_begin.2.2.1 mH_begin.2.2.2.1 ∈ z_ws := z_in (i := 151) (by decide +kernel) rfl
abbrev mH_isNode : z_MD := (⟨"NotaryHall", "isNode", "(I)Z"⟩, prog_1_method_44_code, 1, (some .boolean), 0, fun _ => 0)
theorem woH_isNode : Cond.code mH_isNode.1 mH_isNode.2.1 mH_isNode.2.2.1 mH_isNode.2.2.2.1 ∈ z_ws := z_in (i := 154) (by decide +kernel) rfl
abbrev mH_isNotary : z_MD := (⟨"NotaryHall", "isNotary", "(I)Z"⟩, prog_1_method_45_code, 1, (some .boolean), 0, fun _ => 0)
theorem woH_isNotary : Cond.code mH_isNotary.1 mH_isNotary.2.1 mH_isNotary.2.2.1 mH_isNotary.2.2.2.1 ∈ z_ws := z_in (i := 157) (by decide +kernel) rfl
abbrev mT_init : z_MD := (⟨"NotaryHall$Transaction", "<init>", "(IIIII)V"⟩, prog_6_method_1_code, 6, none, 0, fun _ => 0)
theorem woT_init : Cond.code mT_init.1 mT_init.2.1 mT_init.2.2.1 mT_init.2.2.2.1 ∈ z_ws := z_in (i := 162) (by decide +kernel) rfl
abbrev mL_init : z_MD := (⟨"NotaryHall$StateList", "<init>", "()V"⟩, prog_5_method_1_code, 1, none, 0, fun _ => 0)
theorem woL_init : Cond.code mL_init.1 mL_init.2.1 mL_init.2.2.1 mL_init.2.2.2.1 ∈ z_ws := z_in (i := 168) (by decide +kernel) rfl
abbrev mH_consume : z_MD := (⟨"NotaryHall", "consume", "(III)I"⟩, prog_1_method_3_code, 7, (some .int), 0, fun _ => 0)
theorem woH_consume : Cond.code mH_consume.1 mH_consume.2.1 mH_consume.2.2.1 mH_consume.2.2.2.1 ∈ z_ws := z_in (i := 246) (by decide +kernel) rfl
abbrev mH_find : z_MD := (⟨"NotaryHall", "find", "(I)LNotaryHall$Transaction;"⟩, prog_1_method_40_code, 2, (some (.object "NotaryHall$Transaction")), 0, fun _ => 0)
theorem woH_find : Cond.code mH_find.1 mH_find.2.1 mH_find.2.2.1 mH_find.2.2.2.1 ∈ z_ws := z_in (i := 250) (by decide +kernel) rfl
abbrev mH_findState : z_MD := (⟨"NotaryHall", "findState", "(II)LNotaryHall$State;"⟩, prog_1_method_41_code, 4, (some (.object "NotaryHall$State")), 0, fun _ => 0)
theorem woH_findState : Cond.code mH_findState.1 mH_findState.2.1 mH_findState.2.2.1 mH_findState.2.2.2.1 ∈ z_ws := z_in (i := 254) (by decide +kernel) rfl
abbrev mH_has : z_MD := (⟨"NotaryHall", "has", "(II)Z"⟩, prog_1_method_49_code, 2, (some .boolean), 0, fun _ => 0)
theorem woH_has : Cond.code mH_has.1 mH_has.2.1 mH_has.2.2.1 mH_has.2.2.2.1 ∈ z_ws := z_in (i := 257) (by decide +kernel) rfl
abbrev mL_holds : z_MD := (⟨"NotaryHall$StateList", "holds", "(I)Z"⟩, prog_5_method_4_code, 3, (some .boolean), 0, fun _ => 0)
theorem woL_holds : Cond.code mL_holds.1 mL_holds.2.1 mL_holds.2.2.1 mL_holds.2.2.2.1 ∈ z_ws := z_in (i := 262) (by decide +kernel) rfl
abbrev mL_hasRoomFor : z_MD := (⟨"NotaryHall$StateList", "hasRoomFor", "(I)Z"⟩, prog_5_method_2_code, 2, (some .boolean), 0, fun _ => 0)
theorem woL_hasRoomFor : Cond.code mL_hasRoomFor.1 mL_hasRoomFor.2.1 mL_hasRoomFor.2.2.1 mL_hasRoomFor.2.2.2.1 ∈ z_ws := z_in (i := 266) (by decide +kernel) rfl
abbrev mT_addInput : z_MD := (⟨"NotaryHall$Transaction", "addInput", "(LNotaryHall$State;LNotaryHall$Transaction;)I"⟩, prog_6_method_2_code, 3, (some .int), 0, fun _ => 0)
theorem woT_addInput : Cond.code mT_addInput.1 mT_addInput.2.1 mT_addInput.2.2.1 mT_addInput.2.2.2.1 ∈ z_ws := z_in (i := 270) (by decide +kernel) rfl
abbrev mL_add : z_MD := (⟨"NotaryHall$StateList", "add", "(LNotaryHall$State;)I"⟩, prog_5_method_3_code, 2, (some .int), 0, fun _ => 0)
theorem woL_add : Cond.code mL_add.1 mL_add.2.1 mL_add.2.2.1 mL_add.2.2.2.1 ∈ z_ws := z_in (i := 275) (by decide +kernel) rfl
abbrev mH_produce : z_MD := (⟨"NotaryHall", "produce", "(IIIII)I"⟩, prog_1_method_4_code, 7, (some .int), 0, fun _ => 0)
theorem woH_produce : Cond.code mH_produce.1 mH_produce.2.1 mH_produce.2.2.1 mH_produce.2.2.2.1 ∈ z_ws := z_in (i := 279) (by decide +kernel) rfl
abbrev mH_isContent : z_MD := (⟨"NotaryHall", "isContent", "(III)Z"⟩, prog_1_method_47_code, 3, (some .boolean), 0, fun _ => 0)
theorem woH_isContent : Cond.code mH_isContent.1 mH_isContent.2.1 mH_isContent.2.2.1 mH_isContent.2.2.2.1 ∈ z_ws := z_in (i := 282) (by decide +kernel) rfl
abbrev mH_isAmount : z_MD := (⟨"NotaryHall", "isAmount", "(I)Z"⟩, prog_1_method_46_code, 1, (some .boolean), 0, fun _ => 0)
theorem woH_isAmount : Cond.code mH_isAmount.1 mH_isAmount.2.1 mH_isAmount.2.2.1 mH_isAmount.2.2.2.1 ∈ z_ws := z_in (i := 285) (by decide +kernel) rfl
abbrev mT_addOutput : z_MD := (⟨"NotaryHall$Transaction", "addOutput", "(IIII)I"⟩, prog_6_method_3_code, 5, (some .int), 0, fun _ => 0)
theorem woT_addOutput : Cond.code mT_addOutput.1 mT_addOutput.2.1 mT_addOutput.2.2.1 mT_addOutput.2.2.2.1 ∈ z_ws := z_in (i := 289) (by decide +kernel) rfl
abbrev mS_init : z_MD := (⟨"NotaryHall$State", "<init>", "(IIIII)V"⟩, prog_4_method_1_code, 6, none, 0, fun _ => 0)
theorem woS_init : Cond.code mS_init.1 mS_init.2.1 mS_init.2.2.1 mS_init.2.2.2.1 ∈ z_ws := z_in (i := 294) (by decide +kernel) rfl
abbrev mH_bind : z_MD := (⟨"NotaryHall", "bind", "(III)I"⟩, prog_1_method_5_code, 6, (some .int), 0, fun _ => 0)
theorem woH_bind : Cond.code mH_bind.1 mH_bind.2.1 mH_bind.2.2.1 mH_bind.2.2.2.1 ∈ z_ws := z_in (i := 326) (by decide +kernel) rfl
abbrev mH_pay : z_MD := (⟨"NotaryHall", "pay", "(IIII)I"⟩, prog_1_method_6_code, 10, (some .int), 0, fun _ => 0)
theorem woH_pay : Cond.code mH_pay.1 mH_pay.2.1 mH_pay.2.2.1 mH_pay.2.2.2.1 ∈ z_ws := z_in (i := 330) (by decide +kernel) rfl
abbrev mH_stateNumbersEnd : z_MD := (⟨"NotaryHall", "stateNumbersEnd", "()I"⟩, prog_1_method_43_code, 1, (some .int), 0, fun _ => 0)
theorem woH_stateNumbersEnd : Cond.code mH_stateNumbersEnd.1 mH_stateNumbersEnd.2.1 mH_stateNumbersEnd.2.2.1 mH_stateNumbersEnd.2.2.2.1 ∈ z_ws := z_in (i := 334) (by decide +kernel) rfl
abbrev mH_stateNumbered : z_MD := (⟨"NotaryHall", "stateNumbered", "(I)LNotaryHall$State;"⟩, prog_1_method_42_code, 2, (some (.object "NotaryHall$State")), 0, fun _ => 0)
theorem woH_stateNumbered : Cond.code mH_stateNumbered.1 mH_stateNumbered.2.1 mH_stateNumbered.2.2.1 mH_stateNumbered.2.2.2.1 ∈ z_ws := z_in (i := 338) (by decide +kernel) rfl
abbrev mH_isCoin : z_MD := (⟨"NotaryHall", "isCoin", "(LNotaryHall$State;ILNotaryHall$Transaction;)Z"⟩, prog_1_method_38_code, 4, (some .boolean), 0, fun _ => 0)
theorem woH_isCoin : Cond.code mH_isCoin.1 mH_isCoin.2.1 mH_isCoin.2.2.1 mH_isCoin.2.2.2.1 ∈ z_ws := z_in (i := 342) (by decide +kernel) rfl
abbrev mS_isCashIssuedBy : z_MD := (⟨"NotaryHall$State", "isCashIssuedBy", "(I)Z"⟩, prog_4_method_5_code, 2, (some .boolean), 0, fun _ => 0)
theorem woS_isCashIssuedBy : Cond.code mS_isCashIssuedBy.1 mS_isCashIssuedBy.2.1 mS_isCashIssuedBy.2.2.1 mS_isCashIssuedBy.2.2.2.1 ∈ z_ws := z_in (i := 346) (by decide +kernel) rfl
abbrev mS_isBound : z_MD := (⟨"NotaryHall$State", "isBound", "()Z"⟩, prog_4_method_3_code, 1, (some .boolean), 0, fun _ => 0)
theorem woS_isBound : Cond.code mS_isBound.1 mS_isBound.2.1 mS_isBound.2.2.1 mS_isBound.2.2.2.1 ∈ z_ws := z_in (i := 350) (by decide +kernel) rfl
abbrev mS_source : z_MD := (⟨"NotaryHall$State", "source", "()I"⟩, prog_4_method_2_code, 1, (some .int), 0, fun _ => 0)
theorem woS_source : Cond.code mS_source.1 mS_source.2.1 mS_source.2.2.1 mS_source.2.2.2.1 ∈ z_ws := z_in (i := 354) (by decide +kernel) rfl
abbrev mH_isInVault : z_MD := (⟨"NotaryHall", "isInVault", "(LNotaryHall$State;I)Z"⟩, prog_1_method_35_code, 3, (some .boolean), 0, fun _ => 0)
theorem woH_isInVault : Cond.code mH_isInVault.1 mH_isInVault.2.1 mH_isInVault.2.2.1 mH_isInVault.2.2.2.1 ∈ z_ws := z_in (i := 358) (by decide +kernel) rfl
abbrev mS_concerns : z_MD := (⟨"NotaryHall$State", "concerns", "(I)Z"⟩, prog_4_method_8_code, 2, (some .boolean), 0, fun _ => 0)
theorem woS_concerns : Cond.code mS_concerns.1 mS_concerns.2.1 mS_concerns.2.2.1 mS_concerns.2.2.2.1 ∈ z_ws := z_in (i := 362) (by decide +kernel) rfl
abbrev mS_isCashOwnedBy : z_MD := (⟨"NotaryHall$State", "isCashOwnedBy", "(I)Z"⟩, prog_4_method_6_code, 2, (some .boolean), 0, fun _ => 0)
theorem woS_isCashOwnedBy : Cond.code mS_isCashOwnedBy.1 mS_isCashOwnedBy.2.1 mS_isCashOwnedBy.2.2.1 mS_isCashOwnedBy.2.2.2.1 ∈ z_ws := z_in (i := 366) (by decide +kernel) rfl
abbrev mH_isKnownInput : z_MD := (⟨"NotaryHall", "isKnownInput", "(LNotaryHall$State;I)Z"⟩, prog_1_method_36_code, 4, (some .boolean), 0, fun _ => 0)
theorem woH_isKnownInput : Cond.code mH_isKnownInput.1 mH_isKnownInput.2.1 mH_isKnownInput.2.2.1 mH_isKnownInput.2.2.2.1 ∈ z_ws := z_in (i := 370) (by decide +kernel) rfl
abbrev mH_isHeld : z_MD := (⟨"NotaryHall", "isHeld", "(LNotaryHall$State;I)Z"⟩, prog_1_method_37_code, 5, (some .boolean), 0, fun _ => 0)
theorem woH_isHeld : Cond.code mH_isHeld.1 mH_isHeld.2.1 mH_isHeld.2.2.1 mH_isHeld.2.2.2.1 ∈ z_ws := z_in (i := 374) (by decide +kernel) rfl
abbrev mT_isOpen : z_MD := (⟨"NotaryHall$Transaction", "isOpen", "()Z"⟩, prog_6_method_5_code, 1, (some .boolean), 0, fun _ => 0)
theorem woT_isOpen : Cond.code mT_isOpen.1 mT_isOpen.2.1 mT_isOpen.2.2.1 mT_isOpen.2.2.2.1 ∈ z_ws := z_in (i := 378) (by decide +kernel) rfl
abbrev mH_takeCoins : z_MD := (⟨"NotaryHall", "takeCoins", "(LNotaryHall$Transaction;I)V"⟩, prog_1_method_39_code, 5, none, 0, fun _ => 0)
theorem woH_takeCoins : Cond.code mH_takeCoins.1 mH_takeCoins.2.1 mH_takeCoins.2.2.1 mH_takeCoins.2.2.2.1 ∈ z_ws := z_in (i := 382) (by decide +kernel) rfl
abbrev mH_drop : z_MD := (⟨"NotaryHall", "drop", "(I)Z"⟩, prog_1_method_7_code, 3, (some .boolean), 0, fun _ => 0)
theorem woH_drop : Cond.code mH_drop.1 mH_drop.2.1 mH_drop.2.2.1 mH_drop.2.2.2.1 ∈ z_ws := z_in (i := 386) (by decide +kernel) rfl
abbrev mH_propose : z_MD := (⟨"NotaryHall", "propose", "(IZ)I"⟩, prog_1_method_8_code, 4, (some .int), 0, fun _ => 0)
theorem woH_propose : Cond.code mH_propose.1 mH_propose.2.1 mH_propose.2.2.1 mH_propose.2.2.2.1 ∈ z_ws := z_in (i := 390) (by decide +kernel) rfl
abbrev mT_isValid : z_MD := (⟨"NotaryHall$Transaction", "isValid", "()Z"⟩, prog_6_method_8_code, 2, (some .boolean), 0, fun _ => 0)
theorem woT_isValid : Cond.code mT_isValid.1 mT_isValid.2.1 mT_isValid.2.2.1 mT_isValid.2.2.2.1 ∈ z_ws := z_in (i := 394) (by decide +kernel) rfl
abbrev mT_allowsInput : z_MD := (⟨"NotaryHall$Transaction", "allowsInput", "(LNotaryHall$State;)Z"⟩, prog_6_method_9_code, 2, (some .boolean), 0, fun _ => 0)
theorem woT_allowsInput : Cond.code mT_allowsInput.1 mT_allowsInput.2.1 mT_allowsInput.2.2.1 mT_allowsInput.2.2.2.1 ∈ z_ws := z_in (i := 398) (by decide +kernel) rfl
abbrev mS_boundNumber : z_MD := (⟨"NotaryHall$State", "boundNumber", "()I"⟩, prog_4_method_4_code, 1, (some .int), 0, fun _ => 0)
theorem woS_boundNumber : Cond.code mS_boundNumber.1 mS_boundNumber.2.1 mS_boundNumber.2.2.1 mS_boundNumber.2.2.2.1 ∈ z_ws := z_in (i := 403) (by decide +kernel) rfl
abbrev mT_seal : z_MD := (⟨"NotaryHall$Transaction", "seal", "(Z)V"⟩, prog_6_method_6_code, 2, none, 0, fun _ => 0)
theorem woT_seal : Cond.code mT_seal.1 mT_seal.2.1 mT_seal.2.2.1 mT_seal.2.2.2.1 ∈ z_ws := z_in (i := 409) (by decide +kernel) rfl
abbrev mT_needs : z_MD := (⟨"NotaryHall$Transaction", "needs", "()I"⟩, prog_6_method_10_code, 3, (some .int), 0, fun _ => 0)
theorem woT_needs : Cond.code mT_needs.1 mT_needs.2.1 mT_needs.2.2.1 mT_needs.2.2.2.1 ∈ z_ws := z_in (i := 413) (by decide +kernel) rfl
abbrev mT_mustSign : z_MD := (⟨"NotaryHall$Transaction", "mustSign", "(I)Z"⟩, prog_6_method_11_code, 2, (some .boolean), 0, fun _ => 0)
theorem woT_mustSign : Cond.code mT_mustSign.1 mT_mustSign.2.1 mT_mustSign.2.2.1 mT_mustSign.2.2.2.1 ∈ z_ws := z_in (i := 417) (by decide +kernel) rfl
abbrev mL_holdsCashOwnedBy : z_MD := (⟨"NotaryHall$StateList", "holdsCashOwnedBy", "(I)Z"⟩, prog_5_method_5_code, 3, (some .boolean), 0, fun _ => 0)
theorem woL_holdsCashOwnedBy : Cond.code mL_holdsCashOwnedBy.1 mL_holdsCashOwnedBy.2.1 mL_holdsCashOwnedBy.2.2.1 mL_holdsCashOwnedBy.2.2.2.1 ∈ z_ws := z_in (i := 421) (by decide +kernel) rfl
abbrev mL_cashIssuedBy : z_MD := (⟨"NotaryHall$StateList", "cashIssuedBy", "(I)I"⟩, prog_5_method_6_code, 4, (some .int), 0, fun _ => 0)
theorem woL_cashIssuedBy : Cond.code mL_cashIssuedBy.1 mL_cashIssuedBy.2.1 mL_cashIssuedBy.2.2.1 mL_cashIssuedBy.2.2.2.1 ∈ z_ws := z_in (i := 426) (by decide +kernel) rfl
abbrev mT_owesMore : z_MD := (⟨"NotaryHall$Transaction", "owesMore", "(I)Z"⟩, prog_6_method_12_code, 3, (some .boolean), 0, fun _ => 0)
theorem woT_owesMore : Cond.code mT_owesMore.1 mT_owesMore.2.1 mT_owesMore.2.2.1 mT_owesMore.2.2.2.1 ∈ z_ws := z_in (i := 431) (by decide +kernel) rfl
abbrev mL_debtOf : z_MD := (⟨"NotaryHall$StateList", "debtOf", "(II)I"⟩, prog_5_method_8_code, 5, (some .int), 0, fun _ => 0)
theorem woL_debtOf : Cond.code mL_debtOf.1 mL_debtOf.2.1 mL_debtOf.2.2.1 mL_debtOf.2.2.2.1 ∈ z_ws := z_in (i := 435) (by decide +kernel) rfl
abbrev mS_isDebtOf : z_MD := (⟨"NotaryHall$State", "isDebtOf", "(II)Z"⟩, prog_4_method_7_code, 3, (some .boolean), 0, fun _ => 0)
theorem woS_isDebtOf : Cond.code mS_isDebtOf.1 mS_isDebtOf.2.1 mS_isDebtOf.2.2.1 mS_isDebtOf.2.2.2.1 ∈ z_ws := z_in (i := 439) (by decide +kernel) rfl
abbrev mT_isLetDown : z_MD := (⟨"NotaryHall$Transaction", "isLetDown", "(I)Z"⟩, prog_6_method_13_code, 5, (some .boolean), 0, fun _ => 0)
theorem woT_isLetDown : Cond.code mT_isLetDown.1 mT_isLetDown.2.1 mT_isLetDown.2.2.1 mT_isLetDown.2.2.2.1 ∈ z_ws := z_in (i := 443) (by decide +kernel) rfl
abbrev mJM_max : z_MD := (⟨"java/lang/Math", "max", "(II)I"⟩, prog_10_method_65_code, 2, (some .int), 0, fun _ => 0)
theorem woJM_max : Cond.code mJM_max.1 mJM_max.2.1 mJM_max.2.2.1 mJM_max.2.2.2.1 ∈ z_ws := z_in (i := 446) (by decide +kernel) rfl
abbrev mL_cashOwnedBy : z_MD := (⟨"NotaryHall$StateList", "cashOwnedBy", "(I)I"⟩, prog_5_method_7_code, 4, (some .int), 0, fun _ => 0)
theorem woL_cashOwnedBy : Cond.code mL_cashOwnedBy.1 mL_cashOwnedBy.2.1 mL_cashOwnedBy.2.2.1 mL_cashOwnedBy.2.2.2.1 ∈ z_ws := z_in (i := 450) (by decide +kernel) rfl
abbrev mT_needsNobodyElse : z_MD := (⟨"NotaryHall$Transaction", "needsNobodyElse", "()Z"⟩, prog_6_method_7_code, 1, (some .boolean), 0, fun _ => 0)
theorem woT_needsNobodyElse : Cond.code mT_needsNobodyElse.1 mT_needsNobodyElse.2.1 mT_needsNobodyElse.2.2.1 mT_needsNobodyElse.2.2.2.1 ∈ z_ws := z_in (i := 455) (by decide +kernel) rfl
abbrev mH_sendNotarise : z_MD := (⟨"NotaryHall", "sendNotarise", "(LNotaryHall$Transaction;)I"⟩, prog_1_method_33_code, 2, (some .int), 0, fun _ => 0)
theorem woH_sendNotarise : Cond.code mH_sendNotarise.1 mH_sendNotarise.2.1 mH_sendNotarise.2.2.1 mH_sendNotarise.2.2.2.1 ∈ z_ws := z_in (i := 460) (by decide +kernel) rfl
abbrev mH_send : z_MD := (⟨"NotaryHall", "send", "(ILNotaryHall$Transaction;III)I"⟩, prog_1_method_32_code, 6, (some .int), 0, fun _ => 0)
theorem woH_send : Cond.code mH_send.1 mH_send.2.1 mH_send.2.2.1 mH_send.2.2.2.1 ∈ z_ws := z_in (i := 464) (by decide +kernel) rfl
abbrev mB_code : z_MD := (⟨"NotaryHall$Mailbox", "code", "(IIIII)I"⟩, prog_2_method_2_code, 5, (some .int), 0, fun _ => 0)
theorem woB_code : Cond.code mB_code.1 mB_code.2.1 mB_code.2.2.1 mB_code.2.2.2.1 ∈ z_ws := z_in (i := 467) (by decide +kernel) rfl
abbrev mB_post : z_MD := (⟨"NotaryHall$Mailbox", "post", "(I)Z"⟩, prog_2_method_9_code, 2, (some .boolean), 0, fun _ => 0)
theorem woB_post : Cond.code mB_post.1 mB_post.2.1 mB_post.2.2.1 mB_post.2.2.2.1 ∈ z_ws := z_in (i := 471) (by decide +kernel) rfl
abbrev mB_isWaiting : z_MD := (⟨"NotaryHall$Mailbox", "isWaiting", "(I)Z"⟩, prog_2_method_10_code, 3, (some .boolean), 0, fun _ => 0)
theorem woB_isWaiting : Cond.code mB_isWaiting.1 mB_isWaiting.2.1 mB_isWaiting.2.2.1 mB_isWaiting.2.2.2.1 ∈ z_ws := z_in (i := 475) (by decide +kernel) rfl
abbrev mH_sendToOthers : z_MD := (⟨"NotaryHall", "sendToOthers", "(ILNotaryHall$Transaction;I)I"⟩, prog_1_method_34_code, 6, (some .int), 0, fun _ => 0)
theorem woH_sendToOthers : Cond.code mH_sendToOthers.1 mH_sendToOthers.2.1 mH_sendToOthers.2.2.1 mH_sendToOthers.2.2.2.1 ∈ z_ws := z_in (i := 479) (by decide +kernel) rfl
abbrev mH_deliver : z_MD := (⟨"NotaryHall", "deliver", "(IZ)I"⟩, prog_1_method_9_code, 4, (some .int), 0, fun _ => 0)
theorem woH_deliver : Cond.code mH_deliver.1 mH_deliver.2.1 mH_deliver.2.2.1 mH_deliver.2.2.2.1 ∈ z_ws := z_in (i := 483) (by decide +kernel) rfl
abbrev mB_holdsPlace : z_MD := (⟨"NotaryHall$Mailbox", "holdsPlace", "(I)Z"⟩, prog_2_method_8_code, 2, (some .boolean), 0, fun _ => 0)
theorem woB_holdsPlace : Cond.code mB_holdsPlace.1 mB_holdsPlace.2.1 mB_holdsPlace.2.2.1 mB_holdsPlace.2.2.2.1 ∈ z_ws := z_in (i := 487) (by decide +kernel) rfl
abbrev mH_receive : z_MD := (⟨"NotaryHall", "receive", "(IZ)I"⟩, prog_1_method_22_code, 6, (some .int), 0, fun _ => 0)
theorem woH_receive : Cond.code mH_receive.1 mH_receive.2.1 mH_receive.2.2.1 mH_receive.2.2.2.1 ∈ z_ws := z_in (i := 491) (by decide +kernel) rfl
abbrev mB_transactionOf : z_MD := (⟨"NotaryHall$Mailbox", "transactionOf", "(I)I"⟩, prog_2_method_6_code, 1, (some .int), 0, fun _ => 0)
theorem woB_transactionOf : Cond.code mB_transactionOf.1 mB_transactionOf.2.1 mB_transactionOf.2.2.1 mB_transactionOf.2.2.2.1 ∈ z_ws := z_in (i := 494) (by decide +kernel) rfl
abbrev mB_receiverOf : z_MD := (⟨"NotaryHall$Mailbox", "receiverOf", "(I)I"⟩, prog_2_method_5_code, 1, (some .int), 0, fun _ => 0)
theorem woB_receiverOf : Cond.code mB_receiverOf.1 mB_receiverOf.2.1 mB_receiverOf.2.2.1 mB_receiverOf.2.2.2.1 ∈ z_ws := z_in (i := 497) (by decide +kernel) rfl
abbrev mB_contentOf : z_MD := (⟨"NotaryHall$Mailbox", "contentOf", "(I)I"⟩, prog_2_method_7_code, 1, (some .int), 0, fun _ => 0)
theorem woB_contentOf : Cond.code mB_contentOf.1 mB_contentOf.2.1 mB_contentOf.2.2.1 mB_contentOf.2.2.2.1 ∈ z_ws := z_in (i := 500) (by decide +kernel) rfl
abbrev mB_kindOf : z_MD := (⟨"NotaryHall$Mailbox", "kindOf", "(I)I"⟩, prog_2_method_3_code, 1, (some .int), 0, fun _ => 0)
theorem woB_kindOf : Cond.code mB_kindOf.1 mB_kindOf.2.1 mB_kindOf.2.2.1 mB_kindOf.2.2.2.1 ∈ z_ws := z_in (i := 503) (by decide +kernel) rfl
abbrev mH_receiveAsk : z_MD := (⟨"NotaryHall", "receiveAsk", "(LNotaryHall$Transaction;IZ)I"⟩, prog_1_method_23_code, 6, (some .int), 0, fun _ => 0)
theorem woH_receiveAsk : Cond.code mH_receiveAsk.1 mH_receiveAsk.2.1 mH_receiveAsk.2.2.1 mH_receiveAsk.2.2.2.1 ∈ z_ws := z_in (i := 507) (by decide +kernel) rfl
abbrev mT_decide : z_MD := (⟨"NotaryHall$Transaction", "decide", "(IZ)V"⟩, prog_6_method_4_code, 3, none, 0, fun _ => 0)
theorem woT_decide : Cond.code mT_decide.1 mT_decide.2.1 mT_decide.2.2.1 mT_decide.2.2.2.1 ∈ z_ws := z_in (i := 511) (by decide +kernel) rfl
abbrev mN_fetch : z_MD := (⟨"NotaryHall$Node", "fetch", "(I)V"⟩, prog_3_method_2_code, 2, none, 0, fun _ => 0)
theorem woN_fetch : Cond.code mN_fetch.1 mN_fetch.2.1 mN_fetch.2.2.1 mN_fetch.2.2.2.1 ∈ z_ws := z_in (i := 516) (by decide +kernel) rfl
abbrev mJI_bitCount : z_MD := (⟨"java/lang/Integer", "bitCount", "(I)I"⟩, prog_9_method_49_code, 1, (some .int), 0, fun _ => 0)
theorem woJI_bitCount : Cond.code mJI_bitCount.1 mJI_bitCount.2.1 mJI_bitCount.2.2.1 mJI_bitCount.2.2.2.1 ∈ z_ws := z_in (i := 519) (by decide +kernel) rfl
abbrev mB_senderOf : z_MD := (⟨"NotaryHall$Mailbox", "senderOf", "(I)I"⟩, prog_2_method_4_code, 1, (some .int), 0, fun _ => 0)
theorem woB_senderOf : Cond.code mB_senderOf.1 mB_senderOf.2.1 mB_senderOf.2.2.1 mB_senderOf.2.2.2.1 ∈ z_ws := z_in (i := 525) (by decide +kernel) rfl
abbrev mH_receiveReply : z_MD := (⟨"NotaryHall", "receiveReply", "(LNotaryHall$Transaction;IIZ)I"⟩, prog_1_method_24_code, 7, (some .int), 0, fun _ => 0)
theorem woH_receiveReply : Cond.code mH_receiveReply.1 mH_receiveReply.2.1 mH_receiveReply.2.2.1 mH_receiveReply.2.2.2.1 ∈ z_ws := z_in (i := 529) (by decide +kernel) rfl
abbrev mH_receiveNotarise : z_MD := (⟨"NotaryHall", "receiveNotarise", "(LNotaryHall$Transaction;)I"⟩, prog_1_method_25_code, 2, (some .int), 0, fun _ => 0)
theorem woH_receiveNotarise : Cond.code mH_receiveNotarise.1 mH_receiveNotarise.2.1 mH_receiveNotarise.2.2.1 mH_receiveNotarise.2.2.2.1 ∈ z_ws := z_in (i := 533) (by decide +kernel) rfl
abbrev mH_judge : z_MD := (⟨"NotaryHall", "judge", "(LNotaryHall$Transaction;)I"⟩, prog_1_method_28_code, 2, (some .int), 0, fun _ => 0)
theorem woH_judge : Cond.code mH_judge.1 mH_judge.2.1 mH_judge.2.2.1 mH_judge.2.2.2.1 ∈ z_ws := z_in (i := 537) (by decide +kernel) rfl
abbrev mH_isAnyInputUsedUp : z_MD := (⟨"NotaryHall", "isAnyInputUsedUp", "(LNotaryHall$Transaction;)Z"⟩, prog_1_method_29_code, 4, (some .boolean), 0, fun _ => 0)
theorem woH_isAnyInputUsedUp : Cond.code mH_isAnyInputUsedUp.1 mH_isAnyInputUsedUp.2.1 mH_isAnyInputUsedUp.2.2.1 mH_isAnyInputUsedUp.2.2.2.1 ∈ z_ws := z_in (i := 541) (by decide +kernel) rfl
abbrev mH_useUpInputs : z_MD := (⟨"NotaryHall", "useUpInputs", "(LNotaryHall$Transaction;)V"⟩, prog_1_method_30_code, 4, none, 0, fun _ => 0)
theorem woH_useUpInputs : Cond.code mH_useUpInputs.1 mH_useUpInputs.2.1 mH_useUpInputs.2.2.1 mH_useUpInputs.2.2.2.1 ∈ z_ws := z_in (i := 545) (by decide +kernel) rfl
abbrev mH_receiveVerdict : z_MD := (⟨"NotaryHall", "receiveVerdict", "(LNotaryHall$Transaction;IZ)I"⟩, prog_1_method_26_code, 4, (some .int), 0, fun _ => 0)
theorem woH_receiveVerdict : Cond.code mH_receiveVerdict.1 mH_receiveVerdict.2.1 mH_receiveVerdict.2.2.1 mH_receiveVerdict.2.2.2.1 ∈ z_ws := z_in (i := 549) (by decide +kernel) rfl
abbrev mT_concerned : z_MD := (⟨"NotaryHall$Transaction", "concerned", "()I"⟩, prog_6_method_14_code, 4, (some .int), 0, fun _ => 0)
theorem woT_concerned : Cond.code mT_concerned.1 mT_concerned.2.1 mT_concerned.2.2.1 mT_concerned.2.2.2.1 ∈ z_ws := z_in (i := 553) (by decide +kernel) rfl
abbrev mH_settle : z_MD := (⟨"NotaryHall", "settle", "(LNotaryHall$Transaction;I)V"⟩, prog_1_method_31_code, 3, none, 0, fun _ => 0)
theorem woH_settle : Cond.code mH_settle.1 mH_settle.2.1 mH_settle.2.2.1 mH_settle.2.2.2.1 ∈ z_ws := z_in (i := 558) (by decide +kernel) rfl
abbrev mN_enter : z_MD := (⟨"NotaryHall$Node", "enter", "(I)V"⟩, prog_3_method_3_code, 2, none, 0, fun _ => 0)
theorem woN_enter : Cond.code mN_enter.1 mN_enter.2.1 mN_enter.2.2.1 mN_enter.2.2.2.1 ∈ z_ws := z_in (i := 562) (by decide +kernel) rfl
abbrev mH_receiveFinality : z_MD := (⟨"NotaryHall", "receiveFinality", "(LNotaryHall$Transaction;IZ)I"⟩, prog_1_method_27_code, 5, (some .int), 0, fun _ => 0)
theorem woH_receiveFinality : Cond.code mH_receiveFinality.1 mH_receiveFinality.2.1 mH_receiveFinality.2.2.1 mH_receiveFinality.2.2.2.1 ∈ z_ws := z_in (i := 566) (by decide +kernel) rfl
abbrev mB_removeAt : z_MD := (⟨"NotaryHall$Mailbox", "removeAt", "(I)V"⟩, prog_2_method_11_code, 3, none, 0, fun _ => 0)
theorem woB_removeAt : Cond.code mB_removeAt.1 mB_removeAt.2.1 mB_removeAt.2.2.1 mB_removeAt.2.2.2.1 ∈ z_ws := z_in (i := 570) (by decide +kernel) rfl
abbrev mH_message : z_MD := (⟨"NotaryHall", "message", "(I)I"⟩, prog_1_method_10_code, 2, (some .int), 0, fun _ => 0)
theorem woH_message : Cond.code mH_message.1 mH_message.2.1 mH_message.2.2.1 mH_message.2.2.2.1 ∈ z_ws := z_in (i := 575) (by decide +kernel) rfl
abbrev mH_tick : z_MD := (⟨"NotaryHall", "tick", "(I)I"⟩, prog_1_method_11_code, 2, (some .int), 0, fun _ => 0)
theorem woH_tick : Cond.code mH_tick.1 mH_tick.2.1 mH_tick.2.2.1 mH_tick.2.2.2.1 ∈ z_ws := z_in (i := 579) (by decide +kernel) rfl
abbrev mH_consent : z_MD := (⟨"NotaryHall", "consent", "(IIZ)Z"⟩, prog_1_method_12_code, 4, (some .boolean), 0, fun _ => 0)
theorem woH_consent : Cond.code mH_consent.1 mH_consent.2.1 mH_consent.2.2.1 mH_consent.2.2.2.1 ∈ z_ws := z_in (i := 583) (by decide +kernel) rfl
abbrev mH_stage : z_MD := (⟨"NotaryHall", "stage", "(I)I"⟩, prog_1_method_13_code, 3, (some .int), 0, fun _ => 0)
theorem woH_stage : Cond.code mH_stage.1 mH_stage.2.1 mH_stage.2.2.1 mH_stage.2.2.2.1 ∈ z_ws := z_in (i := 587) (by decide +kernel) rfl
abbrev mH_signatures : z_MD := (⟨"NotaryHall", "signatures", "(IZ)I"⟩, prog_1_method_14_code, 4, (some .int), 0, fun _ => 0)
theorem woH_signatures : Cond.code mH_signatures.1 mH_signatures.2.1 mH_signatures.2.2.1 mH_signatures.2.2.2.1 ∈ z_ws := z_in (i := 591) (by decide +kernel) rfl
abbrev mH_verdict : z_MD := (⟨"NotaryHall", "verdict", "(I)I"⟩, prog_1_method_15_code, 3, (some .int), 0, fun _ => 0)
theorem woH_verdict : Cond.code mH_verdict.1 mH_verdict.2.1 mH_verdict.2.2.1 mH_verdict.2.2.2.1 ∈ z_ws := z_in (i := 596) (by decide +kernel) rfl
abbrev mH_spender : z_MD := (⟨"NotaryHall", "spender", "(II)I"⟩, prog_1_method_16_code, 4, (some .int), 0, fun _ => 0)
theorem woH_spender : Cond.code mH_spender.1 mH_spender.2.1 mH_spender.2.2.1 mH_spender.2.2.2.1 ∈ z_ws := z_in (i := 600) (by decide +kernel) rfl
abbrev mH_standing : z_MD := (⟨"NotaryHall", "standing", "(II)I"⟩, prog_1_method_17_code, 3, (some .int), 0, fun _ => 0)
theorem woH_standing : Cond.code mH_standing.1 mH_standing.2.1 mH_standing.2.2.1 mH_standing.2.2.2.1 ∈ z_ws := z_in (i := 604) (by decide +kernel) rfl
abbrev mH_vault : z_MD := (⟨"NotaryHall", "vault", "(II)I"⟩, prog_1_method_18_code, 6, (some .int), 0, fun _ => 0)
theorem woH_vault : Cond.code mH_vault.1 mH_vault.2.1 mH_vault.2.2.1 mH_vault.2.2.2.1 ∈ z_ws := z_in (i := 608) (by decide +kernel) rfl
abbrev mH_balance : z_MD := (⟨"NotaryHall", "balance", "(II)I"⟩, prog_1_method_19_code, 6, (some .int), 0, fun _ => 0)
theorem woH_balance : Cond.code mH_balance.1 mH_balance.2.1 mH_balance.2.2.1 mH_balance.2.2.2.1 ∈ z_ws := z_in (i := 612) (by decide +kernel) rfl
abbrev mH_fetched : z_MD := (⟨"NotaryHall", "fetched", "(I)I"⟩, prog_1_method_20_code, 2, (some .int), 0, fun _ => 0)
theorem woH_fetched : Cond.code mH_fetched.1 mH_fetched.2.1 mH_fetched.2.2.1 mH_fetched.2.2.2.1 ∈ z_ws := z_in (i := 616) (by decide +kernel) rfl
abbrev mH_tree : z_MD := (⟨"NotaryHall", "tree", "(III)I"⟩, prog_1_method_21_code, 7, (some .int), 0, fun _ => 0)
theorem woH_tree : Cond.code mH_tree.1 mH_tree.2.1 mH_tree.2.2.1 mH_tree.2.2.2.1 ∈ z_ws := z_in (i := 620) (by decide +kernel) rfl
abbrev mT_leaf : z_MD := (⟨"NotaryHall$Transaction", "leaf", "(I)I"⟩, prog_6_method_15_code, 2, (some .int), 0, fun _ => 0)
theorem woT_leaf : Cond.code mT_leaf.1 mT_leaf.2.1 mT_leaf.2.2.1 mT_leaf.2.2.2.1 ∈ z_ws := z_in (i := 624) (by decide +kernel) rfl
abbrev mT_inputLeaf : z_MD := (⟨"NotaryHall$Transaction", "inputLeaf", "(I)I"⟩, prog_6_method_16_code, 2, (some .int), 0, fun _ => 0)
theorem woT_inputLeaf : Cond.code mT_inputLeaf.1 mT_inputLeaf.2.1 mT_inputLeaf.2.2.1 mT_inputLeaf.2.2.2.1 ∈ z_ws := z_in (i := 628) (by decide +kernel) rfl
abbrev mT_outputLeaf : z_MD := (⟨"NotaryHall$Transaction", "outputLeaf", "(I)I"⟩, prog_6_method_17_code, 2, (some .int), 0, fun _ => 0)
theorem woT_outputLeaf : Cond.code mT_outputLeaf.1 mT_outputLeaf.2.1 mT_outputLeaf.2.2.1 mT_outputLeaf.2.2.2.1 ∈ z_ws := z_in (i := 632) (by decide +kernel) rfl
abbrev mS_leafValue : z_MD := (⟨"NotaryHall$State", "leafValue", "()I"⟩, prog_4_method_9_code, 1, (some .int), 0, fun _ => 0)
theorem woS_leafValue : Cond.code mS_leafValue.1 mS_leafValue.2.1 mS_leafValue.2.2.1 mS_leafValue.2.2.2.1 ∈ z_ws := z_in (i := 636) (by decide +kernel) rfl
abbrev mH_mix : z_MD := (⟨"NotaryHall", "mix", "(II)I"⟩, prog_1_method_50_code, 3, (some .int), 0, fun _ => 0)
theorem woH_mix : Cond.code mH_mix.1 mH_mix.2.1 mH_mix.2.2.1 mH_mix.2.2.2.1 ∈ z_ws := z_in (i := 639) (by decide +kernel) rfl
abbrev mR_init : z_MD := (⟨"NotaryHallModel", "<init>", "()V"⟩, prog_8_method_1_code, 1, none, 0, fun _ => 0)
theorem woR_init : Cond.code mR_init.1 mR_init.2.1 mR_init.2.2.1 mR_init.2.2.2.1 ∈ z_ws := z_in (i := 644) (by decide +kernel) rfl
abbrev mR_begin : z_MD := (⟨"NotaryHallModel", "begin", "(IIII)I"⟩, prog_8_method_5_code, 5, (some .int), 0, fun _ => 0)
theorem woR_begin : Cond.code mR_begin.1 mR_begin.2.1 mR_begin.2.2.1 mR_begin.2.2.2.1 ∈ z_ws := z_in (i := 732) (by decide +kernel) rfl
abbrev mR_isNode : z_MD := (⟨"NotaryHallModel", "isNode", "(I)Z"⟩, prog_8_method_3_code, 2, (some .boolean), 0, fun _ => 0)
theorem woR_isNode : Cond.code mR_isNode.1 mR_isNode.2.1 mR_isNode.2.2.1 mR_isNode.2.2.2.1 ∈ z_ws := z_in (i := 736) (by decide +kernel) rfl
abbrev mR_consume : z_MD := (⟨"NotaryHallModel", "consume", "(III)I"⟩, prog_8_method_9_code, 4, (some .int), 0, fun _ => 0)
theorem woR_consume : Cond.code mR_consume.1 mR_consume.2.1 mR_consume.2.2.1 mR_consume.2.2.2.1 ∈ z_ws := z_in (i := 741) (by decide +kernel) rfl
abbrev mR_isTx : z_MD := (⟨"NotaryHallModel", "isTx", "(I)Z"⟩, prog_8_method_2_code, 2, (some .boolean), 0, fun _ => 0)
theorem woR_isTx : Cond.code mR_isTx.1 mR_isTx.2.1 mR_isTx.2.2.1 mR_isTx.2.2.2.1 ∈ z_ws := z_in (i := 745) (by decide +kernel) rfl
abbrev mR_isState : z_MD := (⟨"NotaryHallModel", "isState", "(II)Z"⟩, prog_8_method_4_code, 3, (some .boolean), 0, fun _ => 0)
theorem woR_isState : Cond.code mR_isState.1 mR_isState.2.1 mR_isState.2.2.1 mR_isState.2.2.2.1 ∈ z_ws := z_in (i := 749) (by decide +kernel) rfl
abbrev mR_isInput : z_MD := (⟨"NotaryHallModel", "isInput", "(II)Z"⟩, prog_8_method_6_code, 4, (some .boolean), 0, fun _ => 0)
theorem woR_isInput : Cond.code mR_isInput.1 mR_isInput.2.1 mR_isInput.2.2.1 mR_isInput.2.2.2.1 ∈ z_ws := z_in (i := 753) (by decide +kernel) rfl
abbrev mR_addInput : z_MD := (⟨"NotaryHallModel", "addInput", "(II)V"⟩, prog_8_method_7_code, 3, none, 0, fun _ => 0)
theorem woR_addInput : Cond.code mR_addInput.1 mR_addInput.2.1 mR_addInput.2.2.1 mR_addInput.2.2.2.1 ∈ z_ws := z_in (i := 757) (by decide +kernel) rfl
abbrev mR_produce : z_MD := (⟨"NotaryHallModel", "produce", "(IIIII)I"⟩, prog_8_method_10_code, 6, (some .int), 0, fun _ => 0)
theorem woR_produce : Cond.code mR_produce.1 mR_produce.2.1 mR_produce.2.2.1 mR_produce.2.2.2.1 ∈ z_ws := z_in (i := 761) (by decide +kernel) rfl
abbrev mR_addOutput : z_MD := (⟨"NotaryHallModel", "addOutput", "(IIIII)V"⟩, prog_8_method_8_code, 7, none, 0, fun _ => 0)
theorem woR_addOutput : Cond.code mR_addOutput.1 mR_addOutput.2.1 mR_addOutput.2.2.1 mR_addOutput.2.2.2.1 ∈ z_ws := z_in (i := 765) (by decide +kernel) rfl
abbrev mR_bind : z_MD := (⟨"NotaryHallModel", "bind", "(III)I"⟩, prog_8_method_11_code, 4, (some .int), 0, fun _ => 0)
theorem woR_bind : Cond.code mR_bind.1 mR_bind.2.1 mR_bind.2.2.1 mR_bind.2.2.2.1 ∈ z_ws := z_in (i := 769) (by decide +kernel) rfl
abbrev mR_pay : z_MD := (⟨"NotaryHallModel", "pay", "(IIII)I"⟩, prog_8_method_16_code, 10, (some .int), 0, fun _ => 0)
theorem woR_pay : Cond.code mR_pay.1 mR_pay.2.1 mR_pay.2.2.1 mR_pay.2.2.2.1 ∈ z_ws := z_in (i := 773) (by decide +kernel) rfl
abbrev mR_coin : z_MD := (⟨"NotaryHallModel", "coin", "(III)Z"⟩, prog_8_method_15_code, 5, (some .boolean), 0, fun _ => 0)
theorem woR_coin : Cond.code mR_coin.1 mR_coin.2.1 mR_coin.2.2.1 mR_coin.2.2.2.1 ∈ z_ws := z_in (i := 777) (by decide +kernel) rfl
abbrev mR_inVault : z_MD := (⟨"NotaryHallModel", "inVault", "(II)Z"⟩, prog_8_method_13_code, 5, (some .boolean), 0, fun _ => 0)
theorem woR_inVault : Cond.code mR_inVault.1 mR_inVault.2.1 mR_inVault.2.2.1 mR_inVault.2.2.2.1 ∈ z_ws := z_in (i := 781) (by decide +kernel) rfl
abbrev mR_concerns : z_MD := (⟨"NotaryHallModel", "concerns", "(II)Z"⟩, prog_8_method_12_code, 3, (some .boolean), 0, fun _ => 0)
theorem woR_concerns : Cond.code mR_concerns.1 mR_concerns.2.1 mR_concerns.2.2.1 mR_concerns.2.2.2.1 ∈ z_ws := z_in (i := 785) (by decide +kernel) rfl
abbrev mR_held : z_MD := (⟨"NotaryHallModel", "held", "(II)Z"⟩, prog_8_method_14_code, 4, (some .boolean), 0, fun _ => 0)
theorem woR_held : Cond.code mR_held.1 mR_held.2.1 mR_held.2.2.1 mR_held.2.2.2.1 ∈ z_ws := z_in (i := 789) (by decide +kernel) rfl
abbrev mR_drop : z_MD := (⟨"NotaryHallModel", "drop", "(I)Z"⟩, prog_8_method_17_code, 2, (some .boolean), 0, fun _ => 0)
theorem woR_drop : Cond.code mR_drop.1 mR_drop.2.1 mR_drop.2.2.1 mR_drop.2.2.2.1 ∈ z_ws := z_in (i := 793) (by decide +kernel) rfl
abbrev mR_propose : z_MD := (⟨"NotaryHallModel", "propose", "(IZ)I"⟩, prog_8_method_26_code, 6, (some .int), 0, fun _ => 0)
theorem woR_propose : Cond.code mR_propose.1 mR_propose.2.1 mR_propose.2.2.1 mR_propose.2.2.2.1 ∈ z_ws := z_in (i := 797) (by decide +kernel) rfl
abbrev mR_valid : z_MD := (⟨"NotaryHallModel", "valid", "(I)Z"⟩, prog_8_method_23_code, 5, (some .boolean), 0, fun _ => 0)
theorem woR_valid : Cond.code mR_valid.1 mR_valid.2.1 mR_valid.2.2.1 mR_valid.2.2.2.1 ∈ z_ws := z_in (i := 801) (by decide +kernel) rfl
abbrev mR_alone : z_MD := (⟨"NotaryHallModel", "alone", "(I)Z"⟩, prog_8_method_22_code, 2, (some .boolean), 0, fun _ => 0)
theorem woR_alone : Cond.code mR_alone.1 mR_alone.2.1 mR_alone.2.2.1 mR_alone.2.2.2.1 ∈ z_ws := z_in (i := 805) (by decide +kernel) rfl
abbrev mR_needs : z_MD := (⟨"NotaryHallModel", "needs", "(I)I"⟩, prog_8_method_21_code, 4, (some .int), 0, fun _ => 0)
theorem woR_needs : Cond.code mR_needs.1 mR_needs.2.1 mR_needs.2.2.1 mR_needs.2.2.2.1 ∈ z_ws := z_in (i := 809) (by decide +kernel) rfl
abbrev mR_mustSign : z_MD := (⟨"NotaryHallModel", "mustSign", "(II)Z"⟩, prog_8_method_20_code, 5, (some .boolean), 0, fun _ => 0)
theorem woR_mustSign : Cond.code mR_mustSign.1 mR_mustSign.2.1 mR_mustSign.2.2.1 mR_mustSign.2.2.2.1 ∈ z_ws := z_in (i := 813) (by decide +kernel) rfl
abbrev mR_gain : z_MD := (⟨"NotaryHallModel", "gain", "(IIII)I"⟩, prog_8_method_18_code, 11, (some .int), 0, fun _ => 0)
theorem woR_gain : Cond.code mR_gain.1 mR_gain.2.1 mR_gain.2.2.1 mR_gain.2.2.2.1 ∈ z_ws := z_in (i := 817) (by decide +kernel) rfl
abbrev mR_letDown : z_MD := (⟨"NotaryHallModel", "letDown", "(II)Z"⟩, prog_8_method_19_code, 6, (some .boolean), 0, fun _ => 0)
theorem woR_letDown : Cond.code mR_letDown.1 mR_letDown.2.1 mR_letDown.2.2.1 mR_letDown.2.2.2.1 ∈ z_ws := z_in (i := 821) (by decide +kernel) rfl
abbrev mR_send : z_MD := (⟨"NotaryHallModel", "send", "(IIIII)I"⟩, prog_8_method_25_code, 8, (some .int), 0, fun _ => 0)
theorem woR_send : Cond.code mR_send.1 mR_send.2.1 mR_send.2.2.1 mR_send.2.2.2.1 ∈ z_ws := z_in (i := 825) (by decide +kernel) rfl
abbrev mR_deliver : z_MD := (⟨"NotaryHallModel", "deliver", "(IZ)I"⟩, prog_8_method_28_code, 11, (some .int), 0, fun _ => 0)
theorem woR_deliver : Cond.code mR_deliver.1 mR_deliver.2.1 mR_deliver.2.2.1 mR_deliver.2.2.2.1 ∈ z_ws := z_in (i := 829) (by decide +kernel) rfl
abbrev mR_ask : z_MD := (⟨"NotaryHallModel", "ask", "(IIZ)V"⟩, prog_8_method_29_code, 5, none, 0, fun _ => 0)
theorem woR_ask : Cond.code mR_ask.1 mR_ask.2.1 mR_ask.2.2.1 mR_ask.2.2.2.1 ∈ z_ws := z_in (i := 833) (by decide +kernel) rfl
abbrev mR_fetch : z_MD := (⟨"NotaryHallModel", "fetch", "(II)V"⟩, prog_8_method_27_code, 9, none, 0, fun _ => 0)
theorem woR_fetch : Cond.code mR_fetch.1 mR_fetch.2.1 mR_fetch.2.2.1 mR_fetch.2.2.2.1 ∈ z_ws := z_in (i := 837) (by decide +kernel) rfl
abbrev mR_reply : z_MD := (⟨"NotaryHallModel", "reply", "(IIIZ)I"⟩, prog_8_method_30_code, 7, (some .int), 0, fun _ => 0)
theorem woR_reply : Cond.code mR_reply.1 mR_reply.2.1 mR_reply.2.2.1 mR_reply.2.2.2.1 ∈ z_ws := z_in (i := 841) (by decide +kernel) rfl
abbrev mR_notarise : z_MD := (⟨"NotaryHallModel", "notarise", "(I)V"⟩, prog_8_method_32_code, 3, none, 0, fun _ => 0)
theorem woR_notarise : Cond.code mR_notarise.1 mR_notarise.2.1 mR_notarise.2.2.1 mR_notarise.2.2.2.1 ∈ z_ws := z_in (i := 845) (by decide +kernel) rfl
abbrev mR_judge : z_MD := (⟨"NotaryHallModel", "judge", "(I)I"⟩, prog_8_method_31_code, 3, (some .int), 0, fun _ => 0)
theorem woR_judge : Cond.code mR_judge.1 mR_judge.2.1 mR_judge.2.2.1 mR_judge.2.2.2.1 ∈ z_ws := z_in (i := 849) (by decide +kernel) rfl
abbrev mR_sound : z_MD := (⟨"NotaryHallModel", "sound", "(I)Z"⟩, prog_8_method_24_code, 2, (some .boolean), 0, fun _ => 0)
theorem woR_sound : Cond.code mR_sound.1 mR_sound.2.1 mR_sound.2.2.1 mR_sound.2.2.2.1 ∈ z_ws := z_in (i := 853) (by decide +kernel) rfl
abbrev mR_hear : z_MD := (⟨"NotaryHallModel", "hear", "(IIZ)I"⟩, prog_8_method_34_code, 6, (some .int), 0, fun _ => 0)
theorem woR_hear : Cond.code mR_hear.1 mR_hear.2.1 mR_hear.2.2.1 mR_hear.2.2.2.1 ∈ z_ws := z_in (i := 857) (by decide +kernel) rfl
abbrev mR_told : z_MD := (⟨"NotaryHallModel", "told", "(II)Z"⟩, prog_8_method_33_code, 5, (some .boolean), 0, fun _ => 0)
theorem woR_told : Cond.code mR_told.1 mR_told.2.1 mR_told.2.2.1 mR_told.2.2.2.1 ∈ z_ws := z_in (i := 861) (by decide +kernel) rfl
abbrev mR_close : z_MD := (⟨"NotaryHallModel", "close", "(IIZ)I"⟩, prog_8_method_35_code, 4, (some .int), 0, fun _ => 0)
theorem woR_close : Cond.code mR_close.1 mR_close.2.1 mR_close.2.2.1 mR_close.2.2.2.1 ∈ z_ws := z_in (i := 865) (by decide +kernel) rfl
abbrev mR_message : z_MD := (⟨"NotaryHallModel", "message", "(I)I"⟩, prog_8_method_36_code, 2, (some .int), 0, fun _ => 0)
theorem woR_message : Cond.code mR_message.1 mR_message.2.1 mR_message.2.2.1 mR_message.2.2.2.1 ∈ z_ws := z_in (i := 869) (by decide +kernel) rfl
abbrev mR_tick : z_MD := (⟨"NotaryHallModel", "tick", "(I)I"⟩, prog_8_method_37_code, 2, (some .int), 0, fun _ => 0)
theorem woR_tick : Cond.code mR_tick.1 mR_tick.2.1 mR_tick.2.2.1 mR_tick.2.2.2.1 ∈ z_ws := z_in (i := 873) (by decide +kernel) rfl
abbrev mR_consent : z_MD := (⟨"NotaryHallModel", "consent", "(IIZ)Z"⟩, prog_8_method_38_code, 4, (some .boolean), 0, fun _ => 0)
theorem woR_consent : Cond.code mR_consent.1 mR_consent.2.1 mR_consent.2.2.1 mR_consent.2.2.2.1 ∈ z_ws := z_in (i := 877) (by decide +kernel) rfl
abbrev mR_stage : z_MD := (⟨"NotaryHallModel", "stage", "(I)I"⟩, prog_8_method_39_code, 2, (some .int), 0, fun _ => 0)
theorem woR_stage : Cond.code mR_stage.1 mR_stage.2.1 mR_stage.2.2.1 mR_stage.2.2.2.1 ∈ z_ws := z_in (i := 881) (by decide +kernel) rfl
abbrev mR_signatures : z_MD := (⟨"NotaryHallModel", "signatures", "(IZ)I"⟩, prog_8_method_40_code, 3, (some .int), 0, fun _ => 0)
theorem woR_signatures : Cond.code mR_signatures.1 mR_signatures.2.1 mR_signatures.2.2.1 mR_signatures.2.2.2.1 ∈ z_ws := z_in (i := 885) (by decide +kernel) rfl
abbrev mR_verdict : z_MD := (⟨"NotaryHallModel", "verdict", "(I)I"⟩, prog_8_method_41_code, 2, (some .int), 0, fun _ => 0)
theorem woR_verdict : Cond.code mR_verdict.1 mR_verdict.2.1 mR_verdict.2.2.1 mR_verdict.2.2.2.1 ∈ z_ws := z_in (i := 889) (by decide +kernel) rfl
abbrev mR_spender : z_MD := (⟨"NotaryHallModel", "spender", "(II)I"⟩, prog_8_method_42_code, 3, (some .int), 0, fun _ => 0)
theorem woR_spender : Cond.code mR_spender.1 mR_spender.2.1 mR_spender.2.2.1 mR_spender.2.2.2.1 ∈ z_ws := z_in (i := 893) (by decide +kernel) rfl
abbrev mR_standing : z_MD := (⟨"NotaryHallModel", "standing", "(II)I"⟩, prog_8_method_43_code, 3, (some .int), 0, fun _ => 0)
theorem woR_standing : Cond.code mR_standing.1 mR_standing.2.1 mR_standing.2.2.1 mR_standing.2.2.2.1 ∈ z_ws := z_in (i := 897) (by decide +kernel) rfl
abbrev mR_vault : z_MD := (⟨"NotaryHallModel", "vault", "(II)I"⟩, prog_8_method_44_code, 6, (some .int), 0, fun _ => 0)
theorem woR_vault : Cond.code mR_vault.1 mR_vault.2.1 mR_vault.2.2.1 mR_vault.2.2.2.1 ∈ z_ws := z_in (i := 901) (by decide +kernel) rfl
abbrev mR_balance : z_MD := (⟨"NotaryHallModel", "balance", "(II)I"⟩, prog_8_method_45_code, 5, (some .int), 0, fun _ => 0)
theorem woR_balance : Cond.code mR_balance.1 mR_balance.2.1 mR_balance.2.2.1 mR_balance.2.2.2.1 ∈ z_ws := z_in (i := 905) (by decide +kernel) rfl
abbrev mR_fetched : z_MD := (⟨"NotaryHallModel", "fetched", "(I)I"⟩, prog_8_method_46_code, 2, (some .int), 0, fun _ => 0)
theorem woR_fetched : Cond.code mR_fetched.1 mR_fetched.2.1 mR_fetched.2.2.1 mR_fetched.2.2.2.1 ∈ z_ws := z_in (i := 909) (by decide +kernel) rfl
abbrev mR_tree : z_MD := (⟨"NotaryHallModel", "tree", "(III)I"⟩, prog_8_method_48_code, 8, (some .int), 0, fun _ => 0)
theorem woR_tree : Cond.code mR_tree.1 mR_tree.2.1 mR_tree.2.2.1 mR_tree.2.2.2.1 ∈ z_ws := z_in (i := 913) (by decide +kernel) rfl
abbrev mR_leaf : z_MD := (⟨"NotaryHallModel", "leaf", "(II)I"⟩, prog_8_method_47_code, 4, (some .int), 0, fun _ => 0)
theorem woR_leaf : Cond.code mR_leaf.1 mR_leaf.2.1 mR_leaf.2.2.1 mR_leaf.2.2.2.1 ∈ z_ws := z_in (i := 917) (by decide +kernel) rfl
