theorem zb_0 : Cond.selects "LotOffice" ⟨"LotOffice", "isMan", "(I)Z"⟩ ⟨"LotOffice", "isMan", "(I)Z"⟩ ∈ zBIG := zBIG_in (zmT0 (List.mem_of_getElem? (i := 0) (by decide +kernel))) rfl
theorem zb_1 : Cond.selects "LotOffice$Tokens" ⟨"LotOffice$Tokens", "readRun", "(LLotOffice$Tape;I)I"⟩ ⟨"LotOffice$Tokens", "readRun", "(LLotOffice$Tape;I)I"⟩ ∈ zBIG := zBIG_in (zmT0 (List.mem_of_getElem? (i := 1) (by decide +kernel))) rfl
theorem zb_2 : Cond.selects "LotOffice$Tokens" ⟨"LotOffice$Tokens", "add", "(IIILLotOffice$Word;)V"⟩ ⟨"LotOffice$Tokens", "add", "(IIILLotOffice$Word;)V"⟩ ∈ zBIG := zBIG_in (zmT0 (List.mem_of_getElem? (i := 2) (by decide +kernel))) rfl
theorem zb_3 : Cond.selects "LotOffice$Reader" ⟨"LotOffice$Reader", "readToken", "()V"⟩ ⟨"LotOffice$Reader", "readToken", "()V"⟩ ∈ zBIG := zBIG_in (zmT0 (List.mem_of_getElem? (i := 3) (by decide +kernel))) rfl
theorem zb_4 : Cond.selects "LotOffice$Reader" ⟨"LotOffice$Reader", "readLine", "()Z"⟩ ⟨"LotOffice$Reader", "readLine", "()Z"⟩ ∈ zBIG := zBIG_in (zmT0 (List.mem_of_getElem? (i := 4) (by decide +kernel))) rfl
theorem zb_5 : Cond.selects "LotOffice$Reader" ⟨"LotOffice$Reader", "fail", "(I)Z"⟩ ⟨"LotOffice$Reader", "fail", "(I)Z"⟩ ∈ zBIG := zBIG_in (zmT0 (List.mem_of_getElem? (i := 5) (by decide +kernel))) rfl
theorem zb_6 : Cond.selects "LotOffice$Reader" ⟨"LotOffice$Reader", "readHead", "(I)Z"⟩ ⟨"LotOffice$Reader", "readHead", "(I)Z"⟩ ∈ zBIG := zBIG_in (zmT0 (List.mem_of_getElem? (i := 6) (by decide +kernel))) rfl
theorem zb_7 : Cond.selects "LotOffice$Reader" ⟨"LotOffice$Reader", "readAges", "()Z"⟩ ⟨"LotOffice$Reader", "readAges", "()Z"⟩ ∈ zBIG := zBIG_in (zmT0 (List.mem_of_getElem? (i := 7) (by decide +kernel))) rfl
theorem zb_8 : Cond.selects "LotOffice$Reader" ⟨"LotOffice$Reader", "readNumber", "(II)I"⟩ ⟨"LotOffice$Reader", "readNumber", "(II)I"⟩ ∈ zBIG := zBIG_in (zmT0 (List.mem_of_getElem? (i := 8) (by decide +kernel))) rfl
theorem zb_9 : Cond.selects "LotOffice$Reader" ⟨"LotOffice$Reader", "readClass", "()Z"⟩ ⟨"LotOffice$Reader", "readClass", "()Z"⟩ ∈ zBIG := zBIG_in (zmT0 (List.mem_of_getElem? (i := 9) (by decide +kernel))) rfl
theorem zb_10 : Cond.selects "LotOffice$Reader" ⟨"LotOffice$Reader", "readSend", "()Z"⟩ ⟨"LotOffice$Reader", "readSend", "()Z"⟩ ∈ zBIG := zBIG_in (zmT0 (List.mem_of_getElem? (i := 10) (by decide +kernel))) rfl
theorem zb_11 : Cond.selects "LotOffice$Reader" ⟨"LotOffice$Reader", "readAppeal", "()Z"⟩ ⟨"LotOffice$Reader", "readAppeal", "()Z"⟩ ∈ zBIG := zBIG_in (zmT0 (List.mem_of_getElem? (i := 11) (by decide +kernel))) rfl
theorem zb_12 : Cond.selects "LotOffice$Reader" ⟨"LotOffice$Reader", "readCond", "(I)Z"⟩ ⟨"LotOffice$Reader", "readCond", "(I)Z"⟩ ∈ zBIG := zBIG_in (zmT0 (List.mem_of_getElem? (i := 12) (by decide +kernel))) rfl
theorem zb_13 : Cond.selects "LotOffice$Reader" ⟨"LotOffice$Reader", "readAll", "(I)Z"⟩ ⟨"LotOffice$Reader", "readAll", "(I)Z"⟩ ∈ zBIG := zBIG_in (zmT0 (List.mem_of_getElem? (i := 13) (by decide +kernel))) rfl
theorem zb_14 : Cond.selects "LotOffice$Reader" ⟨"LotOffice$Reader", "readOne", "(I)Z"⟩ ⟨"LotOffice$Reader", "readOne", "(I)Z"⟩ ∈ zBIG := zBIG_in (zmT0 (List.mem_of_getElem? (i := 14) (by decide +kernel))) rfl
theorem zb_15 : Cond.selects "LotOffice$Reader" ⟨"LotOffice$Reader", "readQuestion", "(LLotOffice$Word;)Z"⟩ ⟨"LotOffice$Reader", "readQuestion", "(LLotOffice$Word;)Z"⟩ ∈ zBIG := zBIG_in (zmT0 (List.mem_of_getElem? (i := 15) (by decide +kernel))) rfl
theorem zb_16 : Cond.selects "LotOffice$Reader" ⟨"LotOffice$Reader", "readSign", "(I)Z"⟩ ⟨"LotOffice$Reader", "readSign", "(I)Z"⟩ ∈ zBIG := zBIG_in (zmT0 (List.mem_of_getElem? (i := 16) (by decide +kernel))) rfl
theorem zb_17 : Cond.selects "LotOffice" ⟨"LotOffice", "isLot", "(I)Z"⟩ ⟨"LotOffice", "isLot", "(I)Z"⟩ ∈ zBIG := zBIG_in (zmT0 (List.mem_of_getElem? (i := 17) (by decide +kernel))) rfl
theorem zb_18 : Cond.selects "LotOffice$People" ⟨"LotOffice$People", "lookWho", "()V"⟩ ⟨"LotOffice$People", "lookWho", "()V"⟩ ∈ zBIG := zBIG_in (zmT0 (List.mem_of_getElem? (i := 18) (by decide +kernel))) rfl
theorem zb_19 : Cond.selects "LotOffice$People" ⟨"LotOffice$People", "lookBirths", "()V"⟩ ⟨"LotOffice$People", "lookBirths", "()V"⟩ ∈ zBIG := zBIG_in (zmT0 (List.mem_of_getElem? (i := 19) (by decide +kernel))) rfl
theorem zb_20 : Cond.selects "LotOffice" ⟨"LotOffice", "rollAsOf", "(II)LLotOffice$Roll;"⟩ ⟨"LotOffice", "rollAsOf", "(II)LLotOffice$Roll;"⟩ ∈ zBIG := zBIG_in (zmT0 (List.mem_of_getElem? (i := 20) (by decide +kernel))) rfl
theorem zb_21 : Cond.selects "LotOffice" ⟨"LotOffice", "lawFor", "(II)LLotOffice$Law;"⟩ ⟨"LotOffice", "lawFor", "(II)LLotOffice$Law;"⟩ ∈ zBIG := zBIG_in (zmT0 (List.mem_of_getElem? (i := 21) (by decide +kernel))) rfl
theorem zb_22 : Cond.selects "LotOffice$Roll" ⟨"LotOffice$Roll", "ask", "(LLotOffice$People;LLotOffice$Law;)V"⟩ ⟨"LotOffice$Roll", "ask", "(LLotOffice$People;LLotOffice$Law;)V"⟩ ∈ zBIG := zBIG_in (zmT0 (List.mem_of_getElem? (i := 22) (by decide +kernel))) rfl
theorem zb_23 : Cond.selects "LotOffice$Roll" ⟨"LotOffice$Roll", "askFacts", "(LLotOffice$People;)V"⟩ ⟨"LotOffice$Roll", "askFacts", "(LLotOffice$People;)V"⟩ ∈ zBIG := zBIG_in (zmT0 (List.mem_of_getElem? (i := 23) (by decide +kernel))) rfl
theorem zb_24 : Cond.selects "LotOffice$Roll" ⟨"LotOffice$Roll", "askGrades", "(LLotOffice$People;)V"⟩ ⟨"LotOffice$Roll", "askGrades", "(LLotOffice$People;)V"⟩ ∈ zBIG := zBIG_in (zmT0 (List.mem_of_getElem? (i := 24) (by decide +kernel))) rfl
theorem zb_25 : Cond.selects "LotOffice$Roll" ⟨"LotOffice$Roll", "judge", "(LLotOffice$People;LLotOffice$Law;I)V"⟩ ⟨"LotOffice$Roll", "judge", "(LLotOffice$People;LLotOffice$Law;I)V"⟩ ∈ zBIG := zBIG_in (zmT0 (List.mem_of_getElem? (i := 25) (by decide +kernel))) rfl
theorem zb_26 : Cond.selects "LotOffice$Law" ⟨"LotOffice$Law", "holds", "(I[II)Z"⟩ ⟨"LotOffice$Law", "holds", "(I[II)Z"⟩ ∈ zBIG := zBIG_in (zmT0 (List.mem_of_getElem? (i := 26) (by decide +kernel))) rfl
theorem zb_27 : Cond.selects "LotOffice$Roll" ⟨"LotOffice$Roll", "orderOf", "(LLotOffice$People;II)I"⟩ ⟨"LotOffice$Roll", "orderOf", "(LLotOffice$People;II)I"⟩ ∈ zBIG := zBIG_in (zmT0 (List.mem_of_getElem? (i := 27) (by decide +kernel))) rfl
theorem zb_28 : Cond.selects "LotOffice$Roll" ⟨"LotOffice$Roll", "share", "(LLotOffice$People;)V"⟩ ⟨"LotOffice$Roll", "share", "(LLotOffice$People;)V"⟩ ∈ zBIG := zBIG_in (zmT0 (List.mem_of_getElem? (i := 28) (by decide +kernel))) rfl
theorem zb_29 : Cond.selects "LotOffice$Roll" ⟨"LotOffice$Roll", "shareOneMore", "()V"⟩ ⟨"LotOffice$Roll", "shareOneMore", "()V"⟩ ∈ zBIG := zBIG_in (zmT0 (List.mem_of_getElem? (i := 29) (by decide +kernel))) rfl
theorem zb_30 : Cond.selects "LotOffice$Roll" ⟨"LotOffice$Roll", "callUp", "(LLotOffice$People;)V"⟩ ⟨"LotOffice$Roll", "callUp", "(LLotOffice$People;)V"⟩ ∈ zBIG := zBIG_in (zmT0 (List.mem_of_getElem? (i := 30) (by decide +kernel))) rfl
theorem zb_31 : Cond.selects "LotOffice$Roll" ⟨"LotOffice$Roll", "countAhead", "(LLotOffice$People;I)I"⟩ ⟨"LotOffice$Roll", "countAhead", "(LLotOffice$People;I)I"⟩ ∈ zBIG := zBIG_in (zmT0 (List.mem_of_getElem? (i := 31) (by decide +kernel))) rfl
theorem zb_32 : Cond.selects "LotOffice$Roll" ⟨"LotOffice$Roll", "followChains", "(LLotOffice$People;)V"⟩ ⟨"LotOffice$Roll", "followChains", "(LLotOffice$People;)V"⟩ ∈ zBIG := zBIG_in (zmT0 (List.mem_of_getElem? (i := 32) (by decide +kernel))) rfl
theorem zb_33 : Cond.selects "LotOffice$Fields" ⟨"LotOffice$Fields", "mostHands", "(II)I"⟩ ⟨"LotOffice$Fields", "mostHands", "(II)I"⟩ ∈ zBIG := zBIG_in (zmT0 (List.mem_of_getElem? (i := 33) (by decide +kernel))) rfl
theorem zb_34 : Cond.selects "java/lang/Throwable" ⟨"java/lang/Throwable", "fillInStackTrace", "(I)Ljava/lang/Throwable;"⟩ ⟨"java/lang/Throwable", "fillInStackTrace", "(I)Ljava/lang/Throwable;"⟩ ∈ zBIG := zBIG_in (zmT0 (List.mem_of_getElem? (i := 34) (by decide +kernel))) rfl
theorem zb_35 : Cond.selects "LotOfficeModel" ⟨"LotOfficeModel", "four", "(I)V"⟩ ⟨"LotOfficeModel", "four", "(I)V"⟩ ∈ zBIG := zBIG_in (zmT0 (List.mem_of_getElem? (i := 35) (by decide +kernel))) rfl
theorem zb_36 : Cond.selects "LotOfficeModel" ⟨"LotOfficeModel", "taken", "()V"⟩ ⟨"LotOfficeModel", "taken", "()V"⟩ ∈ zBIG := zBIG_in (zmT0 (List.mem_of_getElem? (i := 36) (by decide +kernel))) rfl
theorem zb_37 : Cond.selects "LotOfficeModel" ⟨"LotOfficeModel", "isMan", "(I)Z"⟩ ⟨"LotOfficeModel", "isMan", "(I)Z"⟩ ∈ zBIG := zBIG_in (zmT0 (List.mem_of_getElem? (i := 37) (by decide +kernel))) rfl
theorem zb_38 : Cond.selects "LotOfficeModel" ⟨"LotOfficeModel", "next", "()V"⟩ ⟨"LotOfficeModel", "next", "()V"⟩ ∈ zBIG := zBIG_in (zmT0 (List.mem_of_getElem? (i := 38) (by decide +kernel))) rfl
theorem zb_39 : Cond.selects "LotOfficeModel" ⟨"LotOfficeModel", "peek", "()I"⟩ ⟨"LotOfficeModel", "peek", "()I"⟩ ∈ zBIG := zBIG_in (zmT0 (List.mem_of_getElem? (i := 39) (by decide +kernel))) rfl
theorem zb_40 : Cond.selects "LotOfficeModel" ⟨"LotOfficeModel", "line", "()Z"⟩ ⟨"LotOfficeModel", "line", "()Z"⟩ ∈ zBIG := zBIG_in (zmT0 (List.mem_of_getElem? (i := 40) (by decide +kernel))) rfl
theorem zb_41 : Cond.selects "LotOfficeModel" ⟨"LotOfficeModel", "isWord", "(J)Z"⟩ ⟨"LotOfficeModel", "isWord", "(J)Z"⟩ ∈ zBIG := zBIG_in (zmT0 (List.mem_of_getElem? (i := 41) (by decide +kernel))) rfl
theorem zb_42 : Cond.selects "LotOfficeModel" ⟨"LotOfficeModel", "bad", "(I)Z"⟩ ⟨"LotOfficeModel", "bad", "(I)Z"⟩ ∈ zBIG := zBIG_in (zmT0 (List.mem_of_getElem? (i := 42) (by decide +kernel))) rfl
theorem zb_43 : Cond.selects "LotOfficeModel" ⟨"LotOfficeModel", "readNumber", "(II)Z"⟩ ⟨"LotOfficeModel", "readNumber", "(II)Z"⟩ ∈ zBIG := zBIG_in (zmT0 (List.mem_of_getElem? (i := 43) (by decide +kernel))) rfl
theorem zb_44 : Cond.selects "LotOfficeModel" ⟨"LotOfficeModel", "ages", "(I)Z"⟩ ⟨"LotOfficeModel", "ages", "(I)Z"⟩ ∈ zBIG := zBIG_in (zmT0 (List.mem_of_getElem? (i := 44) (by decide +kernel))) rfl
theorem zb_45 : Cond.selects "LotOfficeModel" ⟨"LotOfficeModel", "cond", "()Z"⟩ ⟨"LotOfficeModel", "cond", "()Z"⟩ ∈ zBIG := zBIG_in (zmT0 (List.mem_of_getElem? (i := 45) (by decide +kernel))) rfl
theorem zb_46 : Cond.selects "LotOfficeModel" ⟨"LotOfficeModel", "one", "()Z"⟩ ⟨"LotOfficeModel", "one", "()Z"⟩ ∈ zBIG := zBIG_in (zmT0 (List.mem_of_getElem? (i := 46) (by decide +kernel))) rfl
theorem zb_47 : Cond.selects "LotOfficeModel" ⟨"LotOfficeModel", "atom", "()I"⟩ ⟨"LotOfficeModel", "atom", "()I"⟩ ∈ zBIG := zBIG_in (zmT0 (List.mem_of_getElem? (i := 47) (by decide +kernel))) rfl
theorem zb_48 : Cond.selects "LotOfficeModel" ⟨"LotOfficeModel", "isSign", "(I)Z"⟩ ⟨"LotOfficeModel", "isSign", "(I)Z"⟩ ∈ zBIG := zBIG_in (zmT0 (List.mem_of_getElem? (i := 48) (by decide +kernel))) rfl
theorem zb_49 : Cond.selects "LotOfficeModel" ⟨"LotOfficeModel", "open", "()I"⟩ ⟨"LotOfficeModel", "open", "()I"⟩ ∈ zBIG := zBIG_in (zmT0 (List.mem_of_getElem? (i := 49) (by decide +kernel))) rfl
theorem zb_50 : Cond.selects "LotOfficeModel" ⟨"LotOfficeModel", "write", "(III)V"⟩ ⟨"LotOfficeModel", "write", "(III)V"⟩ ∈ zBIG := zBIG_in (zmT0 (List.mem_of_getElem? (i := 50) (by decide +kernel))) rfl
theorem zb_51 : Cond.selects "LotOfficeModel" ⟨"LotOfficeModel", "writeDown", "(I)V"⟩ ⟨"LotOfficeModel", "writeDown", "(I)V"⟩ ∈ zBIG := zBIG_in (zmT0 (List.mem_of_getElem? (i := 51) (by decide +kernel))) rfl
theorem zb_52 : Cond.selects "LotOfficeModel" ⟨"LotOfficeModel", "isOpen", "()Z"⟩ ⟨"LotOfficeModel", "isOpen", "()Z"⟩ ∈ zBIG := zBIG_in (zmT0 (List.mem_of_getElem? (i := 52) (by decide +kernel))) rfl
theorem zb_53 : Cond.selects "LotOfficeModel" ⟨"LotOfficeModel", "sign", "(I)Z"⟩ ⟨"LotOfficeModel", "sign", "(I)Z"⟩ ∈ zBIG := zBIG_in (zmT0 (List.mem_of_getElem? (i := 53) (by decide +kernel))) rfl
theorem zb_54 : Cond.selects "LotOfficeModel" ⟨"LotOfficeModel", "keep", "(I)V"⟩ ⟨"LotOfficeModel", "keep", "(I)V"⟩ ∈ zBIG := zBIG_in (zmT0 (List.mem_of_getElem? (i := 54) (by decide +kernel))) rfl
theorem zb_55 : Cond.selects "LotOfficeModel" ⟨"LotOfficeModel", "isLot", "(I)Z"⟩ ⟨"LotOfficeModel", "isLot", "(I)Z"⟩ ∈ zBIG := zBIG_in (zmT0 (List.mem_of_getElem? (i := 55) (by decide +kernel))) rfl
theorem zb_56 : Cond.selects "LotOfficeModel" ⟨"LotOfficeModel", "isOrder", "(I)Z"⟩ ⟨"LotOfficeModel", "isOrder", "(I)Z"⟩ ∈ zBIG := zBIG_in (zmT0 (List.mem_of_getElem? (i := 56) (by decide +kernel))) rfl
theorem zb_57 : Cond.selects "LotOfficeModel" ⟨"LotOfficeModel", "people", "(I)V"⟩ ⟨"LotOfficeModel", "people", "(I)V"⟩ ∈ zBIG := zBIG_in (zmT0 (List.mem_of_getElem? (i := 57) (by decide +kernel))) rfl
theorem zb_58 : Cond.selects "LotOfficeModel" ⟨"LotOfficeModel", "ageOf", "(II)I"⟩ ⟨"LotOfficeModel", "ageOf", "(II)I"⟩ ∈ zBIG := zBIG_in (zmT0 (List.mem_of_getElem? (i := 58) (by decide +kernel))) rfl
theorem zb_59 : Cond.selects "LotOfficeModel" ⟨"LotOfficeModel", "brothersOf", "(I)I"⟩ ⟨"LotOfficeModel", "brothersOf", "(I)I"⟩ ∈ zBIG := zBIG_in (zmT0 (List.mem_of_getElem? (i := 59) (by decide +kernel))) rfl
theorem zb_60 : Cond.selects "LotOfficeModel" ⟨"LotOfficeModel", "areBrothers", "(II)Z"⟩ ⟨"LotOfficeModel", "areBrothers", "(II)Z"⟩ ∈ zBIG := zBIG_in (zmT0 (List.mem_of_getElem? (i := 60) (by decide +kernel))) rfl
theorem zb_61 : Cond.selects "LotOfficeModel" ⟨"LotOfficeModel", "roll", "(II)V"⟩ ⟨"LotOfficeModel", "roll", "(II)V"⟩ ∈ zBIG := zBIG_in (zmT0 (List.mem_of_getElem? (i := 61) (by decide +kernel))) rfl
theorem zb_62 : Cond.selects "LotOfficeModel" ⟨"LotOfficeModel", "hold", "(II)V"⟩ ⟨"LotOfficeModel", "hold", "(II)V"⟩ ∈ zBIG := zBIG_in (zmT0 (List.mem_of_getElem? (i := 62) (by decide +kernel))) rfl
theorem zb_63 : Cond.selects "LotOfficeModel" ⟨"LotOfficeModel", "lawFor", "(II)I"⟩ ⟨"LotOfficeModel", "lawFor", "(II)I"⟩ ∈ zBIG := zBIG_in (zmT0 (List.mem_of_getElem? (i := 63) (by decide +kernel))) rfl
theorem zb_64 : Cond.selects "LotOfficeModel" ⟨"LotOfficeModel", "judge", "(III)V"⟩ ⟨"LotOfficeModel", "judge", "(III)V"⟩ ∈ zBIG := zBIG_in (zmT0 (List.mem_of_getElem? (i := 64) (by decide +kernel))) rfl
theorem zb_65 : Cond.selects "LotOfficeModel" ⟨"LotOfficeModel", "lineOf", "(IIII)I"⟩ ⟨"LotOfficeModel", "lineOf", "(IIII)I"⟩ ∈ zBIG := zBIG_in (zmT0 (List.mem_of_getElem? (i := 65) (by decide +kernel))) rfl
theorem zb_66 : Cond.selects "LotOfficeModel" ⟨"LotOfficeModel", "isSo", "(IIII)Z"⟩ ⟨"LotOfficeModel", "isSo", "(IIII)Z"⟩ ∈ zBIG := zBIG_in (zmT0 (List.mem_of_getElem? (i := 66) (by decide +kernel))) rfl
theorem zb_67 : Cond.selects "LotOfficeModel" ⟨"LotOfficeModel", "numberOf", "(III)I"⟩ ⟨"LotOfficeModel", "numberOf", "(III)I"⟩ ∈ zBIG := zBIG_in (zmT0 (List.mem_of_getElem? (i := 67) (by decide +kernel))) rfl
theorem zb_68 : Cond.selects "LotOfficeModel" ⟨"LotOfficeModel", "servingOf", "(II)I"⟩ ⟨"LotOfficeModel", "servingOf", "(II)I"⟩ ∈ zBIG := zBIG_in (zmT0 (List.mem_of_getElem? (i := 68) (by decide +kernel))) rfl
theorem zb_69 : Cond.selects "LotOfficeModel" ⟨"LotOfficeModel", "share", "(I)V"⟩ ⟨"LotOfficeModel", "share", "(I)V"⟩ ∈ zBIG := zBIG_in (zmT0 (List.mem_of_getElem? (i := 69) (by decide +kernel))) rfl
theorem zb_70 : Cond.selects "LotOfficeModel" ⟨"LotOfficeModel", "isListed", "(II)Z"⟩ ⟨"LotOfficeModel", "isListed", "(II)Z"⟩ ∈ zBIG := zBIG_in (zmT0 (List.mem_of_getElem? (i := 70) (by decide +kernel))) rfl
theorem zb_71 : Cond.selects "LotOfficeModel" ⟨"LotOfficeModel", "placeOf", "(II)I"⟩ ⟨"LotOfficeModel", "placeOf", "(II)I"⟩ ∈ zBIG := zBIG_in (zmT0 (List.mem_of_getElem? (i := 71) (by decide +kernel))) rfl
theorem zb_72 : Cond.selects "LotOfficeModel" ⟨"LotOfficeModel", "isAhead", "(III)Z"⟩ ⟨"LotOfficeModel", "isAhead", "(III)Z"⟩ ∈ zBIG := zBIG_in (zmT0 (List.mem_of_getElem? (i := 72) (by decide +kernel))) rfl
theorem zb_73 : Cond.selects "LotOfficeModel" ⟨"LotOfficeModel", "weekOf", "(I)I"⟩ ⟨"LotOfficeModel", "weekOf", "(I)I"⟩ ∈ zBIG := zBIG_in (zmT0 (List.mem_of_getElem? (i := 73) (by decide +kernel))) rfl
theorem zb_74 : Cond.selects "LotOfficeModel" ⟨"LotOfficeModel", "chain", "(II)V"⟩ ⟨"LotOfficeModel", "chain", "(II)V"⟩ ∈ zBIG := zBIG_in (zmT0 (List.mem_of_getElem? (i := 74) (by decide +kernel))) rfl
theorem zb_75 : Cond.selects "LotOfficeModel" ⟨"LotOfficeModel", "sentBy", "(III)I"⟩ ⟨"LotOfficeModel", "sentBy", "(III)I"⟩ ∈ zBIG := zBIG_in (zmT0 (List.mem_of_getElem? (i := 75) (by decide +kernel))) rfl
theorem zb_76 : Cond.selects "LotOfficeModel" ⟨"LotOfficeModel", "wasSent", "(II)Z"⟩ ⟨"LotOfficeModel", "wasSent", "(II)Z"⟩ ∈ zBIG := zBIG_in (zmT0 (List.mem_of_getElem? (i := 76) (by decide +kernel))) rfl
theorem zb_77 : Cond.selects "LotOfficeModel" ⟨"LotOfficeModel", "callOf", "(II)V"⟩ ⟨"LotOfficeModel", "callOf", "(II)V"⟩ ∈ zBIG := zBIG_in (zmT0 (List.mem_of_getElem? (i := 77) (by decide +kernel))) rfl
theorem zb_78 : Cond.selects "LotOfficeModel" ⟨"LotOfficeModel", "throwsIf", "(Z)Z"⟩ ⟨"LotOfficeModel", "throwsIf", "(Z)Z"⟩ ∈ zBIG := zBIG_in (zmT0 (List.mem_of_getElem? (i := 78) (by decide +kernel))) rfl
theorem zb_79 : Cond.selects "LotOfficeModel" ⟨"LotOfficeModel", "take", "(IIII)V"⟩ ⟨"LotOfficeModel", "take", "(IIII)V"⟩ ∈ zBIG := zBIG_in (zmT0 (List.mem_of_getElem? (i := 79) (by decide +kernel))) rfl
theorem zb_80 : Cond.selects "LotOfficeModel" ⟨"LotOfficeModel", "mayGo", "(III)I"⟩ ⟨"LotOfficeModel", "mayGo", "(III)I"⟩ ∈ zBIG := zBIG_in (zmT0 (List.mem_of_getElem? (i := 80) (by decide +kernel))) rfl
theorem zb_81 : Cond.initialized "LotOfficeLaw" ∈ zBIG := zBIG_in (zmT1 (List.mem_of_getElem? (i := 0) (by decide +kernel))) rfl
theorem zb_82 : Cond.initialized "LotOffice" ∈ zBIG := zBIG_in (zmT1 (List.mem_of_getElem? (i := 1) (by decide +kernel))) rfl
theorem zb_83 : Cond.initialized "LotOffice$Tape" ∈ zBIG := zBIG_in (zmT1 (List.mem_of_getElem? (i := 2) (by decide +kernel))) rfl
theorem zb_84 : Cond.initialized "LotOffice$People" ∈ zBIG := zBIG_in (zmT1 (List.mem_of_getElem? (i := 3) (by decide +kernel))) rfl
theorem zb_85 : Cond.initialized "LotOffice$Ledger" ∈ zBIG := zBIG_in (zmT1 (List.mem_of_getElem? (i := 4) (by decide +kernel))) rfl
theorem zb_86 : Cond.initialized "LotOffice$Reader" ∈ zBIG := zBIG_in (zmT1 (List.mem_of_getElem? (i := 5) (by decide +kernel))) rfl
theorem zb_87 : Cond.initialized "LotOffice$Tokens" ∈ zBIG := zBIG_in (zmT1 (List.mem_of_getElem? (i := 6) (by decide +kernel))) rfl
theorem zb_88 : Cond.initialized "LotOffice$Law" ∈ zBIG := zBIG_in (zmT1 (List.mem_of_getElem? (i := 7) (by decide +kernel))) rfl
theorem zb_89 : Cond.initialized "LotOffice$Fields" ∈ zBIG := zBIG_in (zmT1 (List.mem_of_getElem? (i := 8) (by decide +kernel))) rfl
theorem zb_90 : Cond.initialized "LotOffice$Roll" ∈ zBIG := zBIG_in (zmT1 (List.mem_of_getElem? (i := 9) (by decide +kernel))) rfl
theorem zb_91 : Cond.initialized "LotOffice$Lot" ∈ zBIG := zBIG_in (zmT1 (List.mem_of_getElem? (i := 10) (by decide +kernel))) rfl
theorem zb_92 : Cond.initialized "LotOfficeModel" ∈ zBIG := zBIG_in (zmT1 (List.mem_of_getElem? (i := 11) (by decide +kernel))) rfl
theorem zb_93 : Cond.initialized "java/lang/Math" ∈ zBIG := zBIG_in (zmT1 (List.mem_of_getElem? (i := 12) (by decide +kernel))) rfl
theorem zb_94 : Cond.initialized "java/lang/Enum" ∈ zBIG := zBIG_in (zmT1 (List.mem_of_getElem? (i := 13) (by decide +kernel))) rfl
theorem zb_95 : Cond.initialized "LotOffice$Word" ∈ zBIG := zBIG_in (zmT1 (List.mem_of_getElem? (i := 14) (by decide +kernel))) rfl
theorem zb_96 : Cond.initialized "java/lang/String" ∈ zBIG := zBIG_in (zmT1 (List.mem_of_getElem? (i := 15) (by decide +kernel))) rfl
theorem zb_97 : Cond.initialized "java/lang/StringLatin1" ∈ zBIG := zBIG_in (zmT1 (List.mem_of_getElem? (i := 16) (by decide +kernel))) rfl
theorem zb_98 : Cond.initialized "jdk/internal/util/Preconditions" ∈ zBIG := zBIG_in (zmT1 (List.mem_of_getElem? (i := 17) (by decide +kernel))) rfl
theorem zb_99 : Cond.initialized "java/lang/StringUTF16" ∈ zBIG := zBIG_in (zmT1 (List.mem_of_getElem? (i := 18) (by decide +kernel))) rfl
theorem zb_100 : Cond.initialized "java/util/Arrays" ∈ zBIG := zBIG_in (zmT1 (List.mem_of_getElem? (i := 19) (by decide +kernel))) rfl
theorem zb_101 : Cond.initialized "java/lang/Throwable" ∈ zBIG := zBIG_in (zmT1 (List.mem_of_getElem? (i := 20) (by decide +kernel))) rfl
theorem zb_102 : Cond.initialized "java/lang/Exception" ∈ zBIG := zBIG_in (zmT1 (List.mem_of_getElem? (i := 21) (by decide +kernel))) rfl
theorem zb_103 : Cond.initialized "java/lang/RuntimeException" ∈ zBIG := zBIG_in (zmT1 (List.mem_of_getElem? (i := 22) (by decide +kernel))) rfl
theorem zb_104 : Cond.initialized "java/util/NoSuchElementException" ∈ zBIG := zBIG_in (zmT1 (List.mem_of_getElem? (i := 23) (by decide +kernel))) rfl
theorem zb_105 : Cond.classLink "LotOfficeLaw" (8 : Nat) "LotOffice" ∈ zBIG := zBIG_in (zmT1 (List.mem_of_getElem? (i := 24) (by decide +kernel))) rfl
theorem zb_106 : Cond.instantiable "LotOffice" (17 : Nat) ∈ zBIG := zBIG_in (zmT1 (List.mem_of_getElem? (i := 25) (by decide +kernel))) rfl
theorem zb_107 : Cond.methodLink "LotOfficeLaw" (19 : Nat) ({ cls := "LotOffice", name := "<init>", desc := "()V" } : Jvm.MethodName) ∈ zBIG := zBIG_in (zmT1 (List.mem_of_getElem? (i := 26) (by decide +kernel))) rfl
theorem zb_108 : Cond.instanceMethod ({ cls := "LotOffice", name := "<init>", desc := "()V" } : Jvm.MethodName) ∈ zBIG := zBIG_in (zmT1 (List.mem_of_getElem? (i := 27) (by decide +kernel))) rfl
theorem zb_109 : Cond.code ({ cls := "LotOffice", name := "<init>", desc := "()V" } : Jvm.MethodName) prog_1_method_1_code (2 : Nat) (Option.none : Option Jvm.ClassFile.FieldType) ∈ zBIG := zBIG_in (zmT1 (List.mem_of_getElem? (i := 28) (by decide +kernel))) rfl
theorem zb_110 : Cond.methodLink "LotOffice" (1 : Nat) ({ cls := "java/lang/Object", name := "<init>", desc := "()V" } : Jvm.MethodName) ∈ zBIG := zBIG_in (zmT1 (List.mem_of_getElem? (i := 29) (by decide +kernel))) rfl
theorem zb_111 : Cond.instanceMethod ({ cls := "java/lang/Object", name := "<init>", desc := "()V" } : Jvm.MethodName) ∈ zBIG := zBIG_in (zmT1 (List.mem_of_getElem? (i := 30) (by decide +kernel))) rfl
theorem zb_112 : Cond.code ({ cls := "java/lang/Object", name := "<init>", desc := "()V" } : Jvm.MethodName) object_method_1_code (1 : Nat) (Option.none : Option Jvm.ClassFile.FieldType) ∈ zBIG := zBIG_in (zmT1 (List.mem_of_getElem? (i := 31) (by decide +kernel))) rfl
theorem zb_113 : Cond.classLink "LotOffice" (7 : Nat) "LotOffice$Tape" ∈ zBIG := zBIG_in (zmT1 (List.mem_of_getElem? (i := 32) (by decide +kernel))) rfl
theorem zb_114 : Cond.instantiable "LotOffice$Tape" (2 : Nat) ∈ zBIG := zBIG_in (zmT1 (List.mem_of_getElem? (i := 33) (by decide +kernel))) rfl
theorem zb_116 : Cond.instanceMethod ({ cls := "LotOffice$Tape", name := "<init>", desc := "()V" } : Jvm.MethodName) ∈ zBIG := zBIG_in (zmT1 (List.mem_of_getElem? (i := 35) (by decide +kernel))) rfl
theorem zb_117 : Cond.code ({ cls := "LotOffice$Tape", name := "<init>", desc := "()V" } : Jvm.MethodName) prog_9_method_1_code (1 : Nat) (Option.none : Option Jvm.ClassFile.FieldType) ∈ zBIG := zBIG_in (zmT1 (List.mem_of_getElem? (i := 36) (by decide +kernel))) rfl
theorem zb_118 : Cond.methodLink "LotOffice$Tape" (3 : Nat) ({ cls := "java/lang/Object", name := "<init>", desc := "()V" } : Jvm.MethodName) ∈ zBIG := zBIG_in (zmT1 (List.mem_of_getElem? (i := 37) (by decide +kernel))) rfl
theorem zb_119 : Cond.fieldLink "LotOffice$Tape" (11 : Nat) "LotOffice$Tape" "bytes" "[B" ∈ zBIG := zBIG_in (zmT1 (List.mem_of_getElem? (i := 38) (by decide +kernel))) rfl
theorem zb_120 : Cond.fieldLink "LotOffice$Tokens" (25 : Nat) "LotOffice$Tape" "length" "I" ∈ zBIG := zBIG_in (zmT1 (List.mem_of_getElem? (i := 39) (by decide +kernel))) rfl
theorem zb_121 : Cond.fieldLink "LotOffice$Fields" (19 : Nat) "LotOffice$Tape" "length" "I" ∈ zBIG := zBIG_in (zmT1 (List.mem_of_getElem? (i := 40) (by decide +kernel))) rfl
theorem zb_122 : Cond.fieldLink "LotOffice" (69 : Nat) "LotOffice$Tape" "length" "I" ∈ zBIG := zBIG_in (zmT1 (List.mem_of_getElem? (i := 41) (by decide +kernel))) rfl
theorem zb_123 : Cond.fieldLink "LotOffice$Tape" (15 : Nat) "LotOffice$Tape" "length" "I" ∈ zBIG := zBIG_in (zmT1 (List.mem_of_getElem? (i := 42) (by decide +kernel))) rfl
theorem zb_129 : Cond.arrayClass Jvm.ClassFile.FieldType.byte ∈ zBIG := zBIG_in (zmT1 (List.mem_of_getElem? (i := 48) (by decide +kernel))) rfl
theorem zb_130 : Cond.classLink "LotOffice" (16 : Nat) "LotOffice$People" ∈ zBIG := zBIG_in (zmT1 (List.mem_of_getElem? (i := 49) (by decide +kernel))) rfl
theorem zb_131 : Cond.instantiable "LotOffice$People" (17 : Nat) ∈ zBIG := zBIG_in (zmT1 (List.mem_of_getElem? (i := 50) (by decide +kernel))) rfl
theorem zb_133 : Cond.instanceMethod ({ cls := "LotOffice$People", name := "<init>", desc := "()V" } : Jvm.MethodName) ∈ zBIG := zBIG_in (zmT1 (List.mem_of_getElem? (i := 52) (by decide +kernel))) rfl
theorem zb_134 : Cond.code ({ cls := "LotOffice$People", name := "<init>", desc := "()V" } : Jvm.MethodName) prog_6_method_1_code (1 : Nat) (Option.none : Option Jvm.ClassFile.FieldType) ∈ zBIG := zBIG_in (zmT1 (List.mem_of_getElem? (i := 53) (by decide +kernel))) rfl
theorem zb_135 : Cond.methodLink "LotOffice$People" (3 : Nat) ({ cls := "java/lang/Object", name := "<init>", desc := "()V" } : Jvm.MethodName) ∈ zBIG := zBIG_in (zmT1 (List.mem_of_getElem? (i := 54) (by decide +kernel))) rfl
theorem zb_136 : Cond.classLink "LotOffice$People" (21 : Nat) "LotOffice$Ledger" ∈ zBIG := zBIG_in (zmT1 (List.mem_of_getElem? (i := 55) (by decide +kernel))) rfl
theorem zb_137 : Cond.instantiable "LotOffice$Ledger" (3 : Nat) ∈ zBIG := zBIG_in (zmT1 (List.mem_of_getElem? (i := 56) (by decide +kernel))) rfl
theorem zb_138 : Cond.methodLink "LotOffice$People" (23 : Nat) ({ cls := "LotOffice$Ledger", name := "<init>", desc := "(I)V" } : Jvm.MethodName) ∈ zBIG := zBIG_in (zmT1 (List.mem_of_getElem? (i := 57) (by decide +kernel))) rfl
theorem zb_139 : Cond.instanceMethod ({ cls := "LotOffice$Ledger", name := "<init>", desc := "(I)V" } : Jvm.MethodName) ∈ zBIG := zBIG_in (zmT1 (List.mem_of_getElem? (i := 58) (by decide +kernel))) rfl
theorem zb_140 : Cond.code ({ cls := "LotOffice$Ledger", name := "<init>", desc := "(I)V" } : Jvm.MethodName) prog_4_method_1_code (2 : Nat) (Option.none : Option Jvm.ClassFile.FieldType) ∈ zBIG := zBIG_in (zmT1 (List.mem_of_getElem? (i := 59) (by decide +kernel))) rfl
theorem zb_141 : Cond.methodLink "LotOffice$Ledger" (1 : Nat) ({ cls := "java/lang/Object", name := "<init>", desc := "()V" } : Jvm.MethodName) ∈ zBIG := zBIG_in (zmT1 (List.mem_of_getElem? (i := 60) (by decide +kernel))) rfl
theorem zb_142 : Cond.fieldLink "LotOffice$Ledger" (13 : Nat) "LotOffice$Ledger" "cells" "[I" ∈ zBIG := zBIG_in (zmT1 (List.mem_of_getElem? (i := 61) (by decide +kernel))) rfl
theorem zb_143 : Cond.fieldLink "LotOffice$Ledger" (7 : Nat) "LotOffice$Ledger" "most" "I" ∈ zBIG := zBIG_in (zmT1 (List.mem_of_getElem? (i := 62) (by decide +kernel))) rfl
theorem zb_144 : Cond.fieldLink "LotOffice$Ledger" (17 : Nat) "LotOffice$Ledger" "size" "I" ∈ zBIG := zBIG_in (zmT1 (List.mem_of_getElem? (i := 63) (by decide +kernel))) rfl
theorem zb_145 : Cond.fieldLink "LotOffice" (294 : Nat) "LotOffice$Ledger" "size" "I" ∈ zBIG := zBIG_in (zmT1 (List.mem_of_getElem? (i := 64) (by decide +kernel))) rfl
theorem zb_153 : Cond.arrayClass Jvm.ClassFile.FieldType.int ∈ zBIG := zBIG_in (zmT1 (List.mem_of_getElem? (i := 72) (by decide +kernel))) rfl
theorem zb_154 : Cond.fieldLink "LotOffice$People" (68 : Nat) "LotOffice$People" "men" "I" ∈ zBIG := zBIG_in (zmT1 (List.mem_of_getElem? (i := 73) (by decide +kernel))) rfl
theorem zb_155 : Cond.fieldLink "LotOffice$Roll" (58 : Nat) "LotOffice$People" "men" "I" ∈ zBIG := zBIG_in (zmT1 (List.mem_of_getElem? (i := 74) (by decide +kernel))) rfl
theorem zb_156 : Cond.fieldLink "LotOffice" (96 : Nat) "LotOffice$People" "men" "I" ∈ zBIG := zBIG_in (zmT1 (List.mem_of_getElem? (i := 75) (by decide +kernel))) rfl
theorem zb_157 : Cond.fieldLink "LotOffice$People" (9 : Nat) "LotOffice$People" "parish" "[I" ∈ zBIG := zBIG_in (zmT1 (List.mem_of_getElem? (i := 76) (by decide +kernel))) rfl
theorem zb_158 : Cond.fieldLink "LotOffice$Roll" (103 : Nat) "LotOffice$People" "parish" "[I" ∈ zBIG := zBIG_in (zmT1 (List.mem_of_getElem? (i := 77) (by decide +kernel))) rfl
theorem zb_159 : Cond.fieldLink "LotOffice$People" (15 : Nat) "LotOffice$People" "father" "[I" ∈ zBIG := zBIG_in (zmT1 (List.mem_of_getElem? (i := 78) (by decide +kernel))) rfl
theorem zb_160 : Cond.fieldLink "LotOffice$People" (18 : Nat) "LotOffice$People" "letter" "[I" ∈ zBIG := zBIG_in (zmT1 (List.mem_of_getElem? (i := 79) (by decide +kernel))) rfl
theorem zb_161 : Cond.fieldLink "LotOffice$Roll" (167 : Nat) "LotOffice$People" "letter" "[I" ∈ zBIG := zBIG_in (zmT1 (List.mem_of_getElem? (i := 80) (by decide +kernel))) rfl
theorem zb_162 : Cond.fieldLink "LotOffice$People" (26 : Nat) "LotOffice$People" "births" "LLotOffice$Ledger;" ∈ zBIG := zBIG_in (zmT1 (List.mem_of_getElem? (i := 81) (by decide +kernel))) rfl
theorem zb_163 : Cond.fieldLink "LotOffice" (109 : Nat) "LotOffice$People" "births" "LLotOffice$Ledger;" ∈ zBIG := zBIG_in (zmT1 (List.mem_of_getElem? (i := 82) (by decide +kernel))) rfl
theorem zb_164 : Cond.fieldLink "LotOffice$People" (30 : Nat) "LotOffice$People" "facts" "LLotOffice$Ledger;" ∈ zBIG := zBIG_in (zmT1 (List.mem_of_getElem? (i := 83) (by decide +kernel))) rfl
theorem zb_165 : Cond.fieldLink "LotOffice" (123 : Nat) "LotOffice$People" "facts" "LLotOffice$Ledger;" ∈ zBIG := zBIG_in (zmT1 (List.mem_of_getElem? (i := 84) (by decide +kernel))) rfl
theorem zb_166 : Cond.fieldLink "LotOffice$Roll" (119 : Nat) "LotOffice$People" "facts" "LLotOffice$Ledger;" ∈ zBIG := zBIG_in (zmT1 (List.mem_of_getElem? (i := 85) (by decide +kernel))) rfl
theorem zb_167 : Cond.fieldLink "LotOffice$People" (33 : Nat) "LotOffice$People" "exams" "LLotOffice$Ledger;" ∈ zBIG := zBIG_in (zmT1 (List.mem_of_getElem? (i := 86) (by decide +kernel))) rfl
theorem zb_168 : Cond.fieldLink "LotOffice" (129 : Nat) "LotOffice$People" "exams" "LLotOffice$Ledger;" ∈ zBIG := zBIG_in (zmT1 (List.mem_of_getElem? (i := 87) (by decide +kernel))) rfl
theorem zb_169 : Cond.fieldLink "LotOffice$Roll" (134 : Nat) "LotOffice$People" "exams" "LLotOffice$Ledger;" ∈ zBIG := zBIG_in (zmT1 (List.mem_of_getElem? (i := 88) (by decide +kernel))) rfl
theorem zb_170 : Cond.fieldLink "LotOffice$People" (36 : Nat) "LotOffice$People" "sames" "LLotOffice$Ledger;" ∈ zBIG := zBIG_in (zmT1 (List.mem_of_getElem? (i := 89) (by decide +kernel))) rfl
theorem zb_171 : Cond.fieldLink "LotOffice" (132 : Nat) "LotOffice$People" "sames" "LLotOffice$Ledger;" ∈ zBIG := zBIG_in (zmT1 (List.mem_of_getElem? (i := 90) (by decide +kernel))) rfl
theorem zb_172 : Cond.fieldLink "LotOffice$People" (39 : Nat) "LotOffice$People" "sends" "LLotOffice$Ledger;" ∈ zBIG := zBIG_in (zmT1 (List.mem_of_getElem? (i := 91) (by decide +kernel))) rfl
theorem zb_173 : Cond.fieldLink "LotOffice$Roll" (187 : Nat) "LotOffice$People" "sends" "LLotOffice$Ledger;" ∈ zBIG := zBIG_in (zmT1 (List.mem_of_getElem? (i := 92) (by decide +kernel))) rfl
theorem zb_174 : Cond.fieldLink "LotOffice" (243 : Nat) "LotOffice$People" "sends" "LLotOffice$Ledger;" ∈ zBIG := zBIG_in (zmT1 (List.mem_of_getElem? (i := 93) (by decide +kernel))) rfl
theorem zb_175 : Cond.fieldLink "LotOffice$People" (42 : Nat) "LotOffice$People" "asOf" "I" ∈ zBIG := zBIG_in (zmT1 (List.mem_of_getElem? (i := 94) (by decide +kernel))) rfl
theorem zb_176 : Cond.fieldLink "LotOffice$Roll" (123 : Nat) "LotOffice$People" "asOf" "I" ∈ zBIG := zBIG_in (zmT1 (List.mem_of_getElem? (i := 95) (by decide +kernel))) rfl
theorem zb_177 : Cond.fieldLink "LotOffice$People" (46 : Nat) "LotOffice$People" "who" "[I" ∈ zBIG := zBIG_in (zmT1 (List.mem_of_getElem? (i := 96) (by decide +kernel))) rfl
theorem zb_178 : Cond.fieldLink "LotOffice" (195 : Nat) "LotOffice$People" "who" "[I" ∈ zBIG := zBIG_in (zmT1 (List.mem_of_getElem? (i := 97) (by decide +kernel))) rfl
theorem zb_179 : Cond.fieldLink "LotOffice$People" (49 : Nat) "LotOffice$People" "born" "[Z" ∈ zBIG := zBIG_in (zmT1 (List.mem_of_getElem? (i := 98) (by decide +kernel))) rfl
theorem zb_180 : Cond.fieldLink "LotOffice" (198 : Nat) "LotOffice$People" "born" "[Z" ∈ zBIG := zBIG_in (zmT1 (List.mem_of_getElem? (i := 99) (by decide +kernel))) rfl
theorem zb_181 : Cond.fieldLink "LotOffice$People" (53 : Nat) "LotOffice$People" "birthWeek" "[I" ∈ zBIG := zBIG_in (zmT1 (List.mem_of_getElem? (i := 100) (by decide +kernel))) rfl
theorem zb_182 : Cond.fieldLink "LotOffice$Roll" (158 : Nat) "LotOffice$People" "birthWeek" "[I" ∈ zBIG := zBIG_in (zmT1 (List.mem_of_getElem? (i := 101) (by decide +kernel))) rfl
theorem zb_183 : Cond.fieldLink "LotOffice$People" (56 : Nat) "LotOffice$People" "counts" "[Z" ∈ zBIG := zBIG_in (zmT1 (List.mem_of_getElem? (i := 102) (by decide +kernel))) rfl
theorem zb_184 : Cond.fieldLink "LotOffice$Roll" (142 : Nat) "LotOffice$People" "counts" "[Z" ∈ zBIG := zBIG_in (zmT1 (List.mem_of_getElem? (i := 103) (by decide +kernel))) rfl
theorem zb_185 : Cond.fieldLink "LotOffice" (205 : Nat) "LotOffice$People" "counts" "[Z" ∈ zBIG := zBIG_in (zmT1 (List.mem_of_getElem? (i := 104) (by decide +kernel))) rfl
theorem zb_186 : Cond.fieldLink "LotOffice$People" (59 : Nat) "LotOffice$People" "sons" "[I" ∈ zBIG := zBIG_in (zmT1 (List.mem_of_getElem? (i := 105) (by decide +kernel))) rfl
theorem zb_187 : Cond.fieldLink "LotOffice$People" (62 : Nat) "LotOffice$People" "inParish" "[I" ∈ zBIG := zBIG_in (zmT1 (List.mem_of_getElem? (i := 106) (by decide +kernel))) rfl
theorem zb_188 : Cond.fieldLink "LotOffice$Fields" (33 : Nat) "LotOffice$People" "inParish" "[I" ∈ zBIG := zBIG_in (zmT1 (List.mem_of_getElem? (i := 107) (by decide +kernel))) rfl
theorem zb_189 : Cond.fieldLink "LotOffice$People" (65 : Nat) "LotOffice$People" "serving" "[Z" ∈ zBIG := zBIG_in (zmT1 (List.mem_of_getElem? (i := 108) (by decide +kernel))) rfl
theorem zb_190 : Cond.fieldLink "LotOffice$Roll" (190 : Nat) "LotOffice$People" "serving" "[Z" ∈ zBIG := zBIG_in (zmT1 (List.mem_of_getElem? (i := 109) (by decide +kernel))) rfl
theorem zb_226 : Cond.arrayClass Jvm.ClassFile.FieldType.boolean ∈ zBIG := zBIG_in (zmT1 (List.mem_of_getElem? (i := 145) (by decide +kernel))) rfl
theorem zb_227 : Cond.classLink "LotOffice" (23 : Nat) "LotOffice$Reader" ∈ zBIG := zBIG_in (zmT1 (List.mem_of_getElem? (i := 146) (by decide +kernel))) rfl
theorem zb_228 : Cond.instantiable "LotOffice$Reader" (8 : Nat) ∈ zBIG := zBIG_in (zmT1 (List.mem_of_getElem? (i := 147) (by decide +kernel))) rfl
theorem zb_230 : Cond.instanceMethod ({ cls := "LotOffice$Reader", name := "<init>", desc := "()V" } : Jvm.MethodName) ∈ zBIG := zBIG_in (zmT1 (List.mem_of_getElem? (i := 149) (by decide +kernel))) rfl
theorem zb_231 : Cond.code ({ cls := "LotOffice$Reader", name := "<init>", desc := "()V" } : Jvm.MethodName) prog_7_method_1_code (1 : Nat) (Option.none : Option Jvm.ClassFile.FieldType) ∈ zBIG := zBIG_in (zmT1 (List.mem_of_getElem? (i := 150) (by decide +kernel))) rfl
theorem zb_232 : Cond.methodLink "LotOffice$Reader" (3 : Nat) ({ cls := "java/lang/Object", name := "<init>", desc := "()V" } : Jvm.MethodName) ∈ zBIG := zBIG_in (zmT1 (List.mem_of_getElem? (i := 151) (by decide +kernel))) rfl
theorem zb_233 : Cond.classLink "LotOffice$Reader" (9 : Nat) "LotOffice$Tokens" ∈ zBIG := zBIG_in (zmT1 (List.mem_of_getElem? (i := 152) (by decide +kernel))) rfl
theorem zb_234 : Cond.instantiable "LotOffice$Tokens" (6 : Nat) ∈ zBIG := zBIG_in (zmT1 (List.mem_of_getElem? (i := 153) (by decide +kernel))) rfl
theorem zb_236 : Cond.instanceMethod ({ cls := "LotOffice$Tokens", name := "<init>", desc := "()V" } : Jvm.MethodName) ∈ zBIG := zBIG_in (zmT1 (List.mem_of_getElem? (i := 155) (by decide +kernel))) rfl
theorem zb_237 : Cond.code ({ cls := "LotOffice$Tokens", name := "<init>", desc := "()V" } : Jvm.MethodName) prog_10_method_1_code (1 : Nat) (Option.none : Option Jvm.ClassFile.FieldType) ∈ zBIG := zBIG_in (zmT1 (List.mem_of_getElem? (i := 156) (by decide +kernel))) rfl
theorem zb_238 : Cond.methodLink "LotOffice$Tokens" (1 : Nat) ({ cls := "java/lang/Object", name := "<init>", desc := "()V" } : Jvm.MethodName) ∈ zBIG := zBIG_in (zmT1 (List.mem_of_getElem? (i := 157) (by decide +kernel))) rfl
theorem zb_239 : Cond.classLink "LotOffice$Tokens" (19 : Nat) "LotOffice$Word" ∈ zBIG := zBIG_in (zmT1 (List.mem_of_getElem? (i := 158) (by decide +kernel))) rfl
theorem zb_241 : Cond.fieldLink "LotOffice$Tokens" (9 : Nat) "LotOffice$Tokens" "kind" "[I" ∈ zBIG := zBIG_in (zmT1 (List.mem_of_getElem? (i := 160) (by decide +kernel))) rfl
theorem zb_242 : Cond.fieldLink "LotOffice$Reader" (66 : Nat) "LotOffice$Tokens" "kind" "[I" ∈ zBIG := zBIG_in (zmT1 (List.mem_of_getElem? (i := 161) (by decide +kernel))) rfl
theorem zb_243 : Cond.fieldLink "LotOffice$Tokens" (13 : Nat) "LotOffice$Tokens" "start" "[I" ∈ zBIG := zBIG_in (zmT1 (List.mem_of_getElem? (i := 162) (by decide +kernel))) rfl
theorem zb_244 : Cond.fieldLink "LotOffice$Reader" (77 : Nat) "LotOffice$Tokens" "start" "[I" ∈ zBIG := zBIG_in (zmT1 (List.mem_of_getElem? (i := 163) (by decide +kernel))) rfl
theorem zb_245 : Cond.fieldLink "LotOffice$Tokens" (16 : Nat) "LotOffice$Tokens" "value" "[I" ∈ zBIG := zBIG_in (zmT1 (List.mem_of_getElem? (i := 164) (by decide +kernel))) rfl
theorem zb_246 : Cond.fieldLink "LotOffice$Reader" (141 : Nat) "LotOffice$Tokens" "value" "[I" ∈ zBIG := zBIG_in (zmT1 (List.mem_of_getElem? (i := 165) (by decide +kernel))) rfl
theorem zb_247 : Cond.fieldLink "LotOffice$Tokens" (21 : Nat) "LotOffice$Tokens" "word" "[LLotOffice$Word;" ∈ zBIG := zBIG_in (zmT1 (List.mem_of_getElem? (i := 166) (by decide +kernel))) rfl
theorem zb_248 : Cond.fieldLink "LotOffice$Reader" (70 : Nat) "LotOffice$Tokens" "word" "[LLotOffice$Word;" ∈ zBIG := zBIG_in (zmT1 (List.mem_of_getElem? (i := 167) (by decide +kernel))) rfl
theorem zb_249 : Cond.fieldLink "LotOffice$Tokens" (41 : Nat) "LotOffice$Tokens" "count" "I" ∈ zBIG := zBIG_in (zmT1 (List.mem_of_getElem? (i := 168) (by decide +kernel))) rfl
theorem zb_250 : Cond.fieldLink "LotOffice$Reader" (63 : Nat) "LotOffice$Tokens" "count" "I" ∈ zBIG := zBIG_in (zmT1 (List.mem_of_getElem? (i := 169) (by decide +kernel))) rfl
theorem zb_251 : Cond.fieldLink "LotOffice$Tokens" (37 : Nat) "LotOffice$Tokens" "tooLong" "Z" ∈ zBIG := zBIG_in (zmT1 (List.mem_of_getElem? (i := 170) (by decide +kernel))) rfl
theorem zb_252 : Cond.fieldLink "LotOffice$Reader" (55 : Nat) "LotOffice$Tokens" "tooLong" "Z" ∈ zBIG := zBIG_in (zmT1 (List.mem_of_getElem? (i := 171) (by decide +kernel))) rfl
theorem zb_266 : Cond.classLink "LotOffice$Reader" (18 : Nat) "LotOffice$Law" ∈ zBIG := zBIG_in (zmT1 (List.mem_of_getElem? (i := 185) (by decide +kernel))) rfl
theorem zb_267 : Cond.instantiable "LotOffice$Law" (13 : Nat) ∈ zBIG := zBIG_in (zmT1 (List.mem_of_getElem? (i := 186) (by decide +kernel))) rfl
theorem zb_269 : Cond.instanceMethod ({ cls := "LotOffice$Law", name := "<init>", desc := "()V" } : Jvm.MethodName) ∈ zBIG := zBIG_in (zmT1 (List.mem_of_getElem? (i := 188) (by decide +kernel))) rfl
theorem zb_270 : Cond.code ({ cls := "LotOffice$Law", name := "<init>", desc := "()V" } : Jvm.MethodName) prog_3_method_1_code (1 : Nat) (Option.none : Option Jvm.ClassFile.FieldType) ∈ zBIG := zBIG_in (zmT1 (List.mem_of_getElem? (i := 189) (by decide +kernel))) rfl
theorem zb_271 : Cond.methodLink "LotOffice$Law" (3 : Nat) ({ cls := "java/lang/Object", name := "<init>", desc := "()V" } : Jvm.MethodName) ∈ zBIG := zBIG_in (zmT1 (List.mem_of_getElem? (i := 190) (by decide +kernel))) rfl
theorem zb_272 : Cond.fieldLink "LotOffice" (151 : Nat) "LotOffice$Law" "told" "I" ∈ zBIG := zBIG_in (zmT1 (List.mem_of_getElem? (i := 191) (by decide +kernel))) rfl
theorem zb_273 : Cond.fieldLink "LotOffice$Law" (9 : Nat) "LotOffice$Law" "from" "I" ∈ zBIG := zBIG_in (zmT1 (List.mem_of_getElem? (i := 192) (by decide +kernel))) rfl
theorem zb_274 : Cond.fieldLink "LotOffice" (154 : Nat) "LotOffice$Law" "from" "I" ∈ zBIG := zBIG_in (zmT1 (List.mem_of_getElem? (i := 193) (by decide +kernel))) rfl
theorem zb_275 : Cond.fieldLink "LotOffice$Law" (15 : Nat) "LotOffice$Law" "youngest" "I" ∈ zBIG := zBIG_in (zmT1 (List.mem_of_getElem? (i := 194) (by decide +kernel))) rfl
theorem zb_276 : Cond.fieldLink "LotOffice$Reader" (123 : Nat) "LotOffice$Law" "youngest" "I" ∈ zBIG := zBIG_in (zmT1 (List.mem_of_getElem? (i := 195) (by decide +kernel))) rfl
theorem zb_277 : Cond.fieldLink "LotOffice$Roll" (145 : Nat) "LotOffice$Law" "youngest" "I" ∈ zBIG := zBIG_in (zmT1 (List.mem_of_getElem? (i := 196) (by decide +kernel))) rfl
theorem zb_278 : Cond.fieldLink "LotOffice$Law" (18 : Nat) "LotOffice$Law" "oldest" "I" ∈ zBIG := zBIG_in (zmT1 (List.mem_of_getElem? (i := 197) (by decide +kernel))) rfl
theorem zb_279 : Cond.fieldLink "LotOffice$Reader" (129 : Nat) "LotOffice$Law" "oldest" "I" ∈ zBIG := zBIG_in (zmT1 (List.mem_of_getElem? (i := 198) (by decide +kernel))) rfl
theorem zb_280 : Cond.fieldLink "LotOffice$Roll" (148 : Nat) "LotOffice$Law" "oldest" "I" ∈ zBIG := zBIG_in (zmT1 (List.mem_of_getElem? (i := 199) (by decide +kernel))) rfl
theorem zb_281 : Cond.fieldLink "LotOffice$Law" (21 : Nat) "LotOffice$Law" "appealDays" "I" ∈ zBIG := zBIG_in (zmT1 (List.mem_of_getElem? (i := 200) (by decide +kernel))) rfl
theorem zb_282 : Cond.fieldLink "LotOffice$Reader" (138 : Nat) "LotOffice$Law" "appealDays" "I" ∈ zBIG := zBIG_in (zmT1 (List.mem_of_getElem? (i := 201) (by decide +kernel))) rfl
theorem zb_283 : Cond.fieldLink "LotOffice" (255 : Nat) "LotOffice$Law" "appealDays" "I" ∈ zBIG := zBIG_in (zmT1 (List.mem_of_getElem? (i := 202) (by decide +kernel))) rfl
theorem zb_284 : Cond.fieldLink "LotOffice$Law" (40 : Nat) "LotOffice$Law" "asksServing" "Z" ∈ zBIG := zBIG_in (zmT1 (List.mem_of_getElem? (i := 203) (by decide +kernel))) rfl
theorem zb_285 : Cond.fieldLink "LotOffice$Roll" (106 : Nat) "LotOffice$Law" "asksServing" "Z" ∈ zBIG := zBIG_in (zmT1 (List.mem_of_getElem? (i := 204) (by decide +kernel))) rfl
theorem zb_286 : Cond.fieldLink "LotOffice" (297 : Nat) "LotOffice$Law" "asksServing" "Z" ∈ zBIG := zBIG_in (zmT1 (List.mem_of_getElem? (i := 205) (by decide +kernel))) rfl
theorem zb_287 : Cond.fieldLink "LotOffice$Law" (44 : Nat) "LotOffice$Law" "lines" "I" ∈ zBIG := zBIG_in (zmT1 (List.mem_of_getElem? (i := 206) (by decide +kernel))) rfl
theorem zb_288 : Cond.fieldLink "LotOffice$Reader" (85 : Nat) "LotOffice$Law" "lines" "I" ∈ zBIG := zBIG_in (zmT1 (List.mem_of_getElem? (i := 207) (by decide +kernel))) rfl
theorem zb_289 : Cond.fieldLink "LotOffice" (157 : Nat) "LotOffice$Law" "lines" "I" ∈ zBIG := zBIG_in (zmT1 (List.mem_of_getElem? (i := 208) (by decide +kernel))) rfl
theorem zb_290 : Cond.fieldLink "LotOffice$Law" (24 : Nat) "LotOffice$Law" "kind" "[I" ∈ zBIG := zBIG_in (zmT1 (List.mem_of_getElem? (i := 209) (by decide +kernel))) rfl
theorem zb_291 : Cond.fieldLink "LotOffice$Law" (28 : Nat) "LotOffice$Law" "number" "[I" ∈ zBIG := zBIG_in (zmT1 (List.mem_of_getElem? (i := 210) (by decide +kernel))) rfl
theorem zb_292 : Cond.fieldLink "LotOffice$Law" (31 : Nat) "LotOffice$Law" "firstStep" "[I" ∈ zBIG := zBIG_in (zmT1 (List.mem_of_getElem? (i := 211) (by decide +kernel))) rfl
theorem zb_293 : Cond.fieldLink "LotOffice$Law" (34 : Nat) "LotOffice$Law" "endStep" "[I" ∈ zBIG := zBIG_in (zmT1 (List.mem_of_getElem? (i := 212) (by decide +kernel))) rfl
theorem zb_294 : Cond.fieldLink "LotOffice$Law" (37 : Nat) "LotOffice$Law" "steps" "[I" ∈ zBIG := zBIG_in (zmT1 (List.mem_of_getElem? (i := 213) (by decide +kernel))) rfl
theorem zb_295 : Cond.fieldLink "LotOffice$Law" (47 : Nat) "LotOffice$Law" "stepCount" "I" ∈ zBIG := zBIG_in (zmT1 (List.mem_of_getElem? (i := 214) (by decide +kernel))) rfl
theorem zb_323 : Cond.fieldLink "LotOffice$Reader" (12 : Nat) "LotOffice$Reader" "tokens" "LLotOffice$Tokens;" ∈ zBIG := zBIG_in (zmT2 (List.mem_of_getElem? (i := 2) (by decide +kernel))) rfl
theorem zb_324 : Cond.fieldLink "LotOffice$Reader" (21 : Nat) "LotOffice$Reader" "law" "LLotOffice$Law;" ∈ zBIG := zBIG_in (zmT2 (List.mem_of_getElem? (i := 3) (by decide +kernel))) rfl
theorem zb_325 : Cond.fieldLink "LotOffice$Reader" (28 : Nat) "LotOffice$Reader" "fault" "I" ∈ zBIG := zBIG_in (zmT2 (List.mem_of_getElem? (i := 4) (by decide +kernel))) rfl
theorem zb_326 : Cond.fieldLink "LotOffice" (142 : Nat) "LotOffice$Reader" "fault" "I" ∈ zBIG := zBIG_in (zmT2 (List.mem_of_getElem? (i := 5) (by decide +kernel))) rfl
theorem zb_327 : Cond.fieldLink "LotOffice$Reader" (32 : Nat) "LotOffice$Reader" "place" "I" ∈ zBIG := zBIG_in (zmT2 (List.mem_of_getElem? (i := 6) (by decide +kernel))) rfl
theorem zb_328 : Cond.fieldLink "LotOffice" (148 : Nat) "LotOffice$Reader" "place" "I" ∈ zBIG := zBIG_in (zmT2 (List.mem_of_getElem? (i := 7) (by decide +kernel))) rfl
theorem zb_329 : Cond.fieldLink "LotOffice$Reader" (38 : Nat) "LotOffice$Reader" "at" "I" ∈ zBIG := zBIG_in (zmT2 (List.mem_of_getElem? (i := 8) (by decide +kernel))) rfl
theorem zb_330 : Cond.fieldLink "LotOffice$Reader" (48 : Nat) "LotOffice$Reader" "token" "I" ∈ zBIG := zBIG_in (zmT2 (List.mem_of_getElem? (i := 9) (by decide +kernel))) rfl
theorem zb_331 : Cond.fieldLink "LotOffice$Reader" (74 : Nat) "LotOffice$Reader" "word" "LLotOffice$Word;" ∈ zBIG := zBIG_in (zmT2 (List.mem_of_getElem? (i := 10) (by decide +kernel))) rfl
theorem zb_332 : Cond.fieldLink "LotOffice$Reader" (35 : Nat) "LotOffice$Reader" "ones" "I" ∈ zBIG := zBIG_in (zmT2 (List.mem_of_getElem? (i := 11) (by decide +kernel))) rfl
theorem zb_350 : Cond.classLink "LotOffice" (30 : Nat) "LotOffice$Law" ∈ zBIG := zBIG_in (zmT2 (List.mem_of_getElem? (i := 29) (by decide +kernel))) rfl
theorem zb_353 : Cond.classLink "LotOffice" (41 : Nat) "LotOffice$Roll" ∈ zBIG := zBIG_in (zmT2 (List.mem_of_getElem? (i := 32) (by decide +kernel))) rfl
theorem zb_355 : Cond.classLink "LotOffice" (47 : Nat) "LotOffice$Fields" ∈ zBIG := zBIG_in (zmT2 (List.mem_of_getElem? (i := 34) (by decide +kernel))) rfl
theorem zb_356 : Cond.instantiable "LotOffice$Fields" (3 : Nat) ∈ zBIG := zBIG_in (zmT2 (List.mem_of_getElem? (i := 35) (by decide +kernel))) rfl
theorem zb_358 : Cond.instanceMethod ({ cls := "LotOffice$Fields", name := "<init>", desc := "()V" } : Jvm.MethodName) ∈ zBIG := zBIG_in (zmT2 (List.mem_of_getElem? (i := 37) (by decide +kernel))) rfl
theorem zb_359 : Cond.code ({ cls := "LotOffice$Fields", name := "<init>", desc := "()V" } : Jvm.MethodName) prog_2_method_1_code (1 : Nat) (Option.none : Option Jvm.ClassFile.FieldType) ∈ zBIG := zBIG_in (zmT2 (List.mem_of_getElem? (i := 38) (by decide +kernel))) rfl
theorem zb_360 : Cond.methodLink "LotOffice$Fields" (3 : Nat) ({ cls := "java/lang/Object", name := "<init>", desc := "()V" } : Jvm.MethodName) ∈ zBIG := zBIG_in (zmT2 (List.mem_of_getElem? (i := 39) (by decide +kernel))) rfl
theorem zb_361 : Cond.classLink "LotOffice$Fields" (9 : Nat) "[[I" ∈ zBIG := zBIG_in (zmT2 (List.mem_of_getElem? (i := 40) (by decide +kernel))) rfl
theorem zb_363 : Cond.fieldLink "LotOffice$Fields" (11 : Nat) "LotOffice$Fields" "hands" "[[I" ∈ zBIG := zBIG_in (zmT2 (List.mem_of_getElem? (i := 42) (by decide +kernel))) rfl
theorem zb_364 : Cond.fieldLink "LotOffice" (188 : Nat) "LotOffice$Fields" "hands" "[[I" ∈ zBIG := zBIG_in (zmT2 (List.mem_of_getElem? (i := 43) (by decide +kernel))) rfl
theorem zb_365 : Cond.fieldLink "LotOffice$Fields" (16 : Nat) "LotOffice$Fields" "goneBy" "[[I" ∈ zBIG := zBIG_in (zmT2 (List.mem_of_getElem? (i := 44) (by decide +kernel))) rfl
theorem zb_366 : Cond.fieldLink "LotOffice" (291 : Nat) "LotOffice$Fields" "goneBy" "[[I" ∈ zBIG := zBIG_in (zmT2 (List.mem_of_getElem? (i := 45) (by decide +kernel))) rfl
theorem zb_367 : Cond.fieldLink "LotOffice$Fields" (29 : Nat) "LotOffice$Fields" "toldOnce" "Z" ∈ zBIG := zBIG_in (zmT2 (List.mem_of_getElem? (i := 46) (by decide +kernel))) rfl
theorem zb_368 : Cond.fieldLink "LotOffice" (287 : Nat) "LotOffice$Fields" "toldOnce" "Z" ∈ zBIG := zBIG_in (zmT2 (List.mem_of_getElem? (i := 47) (by decide +kernel))) rfl
theorem zb_376 : Cond.instantiable "LotOffice$Roll" (13 : Nat) ∈ zBIG := zBIG_in (zmT2 (List.mem_of_getElem? (i := 55) (by decide +kernel))) rfl
theorem zb_377 : Cond.methodLink "LotOffice" (66 : Nat) ({ cls := "LotOffice$Roll", name := "<init>", desc := "(I)V" } : Jvm.MethodName) ∈ zBIG := zBIG_in (zmT2 (List.mem_of_getElem? (i := 56) (by decide +kernel))) rfl
theorem zb_378 : Cond.instanceMethod ({ cls := "LotOffice$Roll", name := "<init>", desc := "(I)V" } : Jvm.MethodName) ∈ zBIG := zBIG_in (zmT2 (List.mem_of_getElem? (i := 57) (by decide +kernel))) rfl
theorem zb_379 : Cond.code ({ cls := "LotOffice$Roll", name := "<init>", desc := "(I)V" } : Jvm.MethodName) prog_8_method_1_code (2 : Nat) (Option.none : Option Jvm.ClassFile.FieldType) ∈ zBIG := zBIG_in (zmT2 (List.mem_of_getElem? (i := 58) (by decide +kernel))) rfl
theorem zb_380 : Cond.methodLink "LotOffice$Roll" (3 : Nat) ({ cls := "java/lang/Object", name := "<init>", desc := "()V" } : Jvm.MethodName) ∈ zBIG := zBIG_in (zmT2 (List.mem_of_getElem? (i := 59) (by decide +kernel))) rfl
theorem zb_381 : Cond.classLink "LotOffice$Roll" (9 : Nat) "LotOffice$Lot" ∈ zBIG := zBIG_in (zmT2 (List.mem_of_getElem? (i := 60) (by decide +kernel))) rfl
theorem zb_382 : Cond.instantiable "LotOffice$Lot" (6 : Nat) ∈ zBIG := zBIG_in (zmT2 (List.mem_of_getElem? (i := 61) (by decide +kernel))) rfl
theorem zb_383 : Cond.methodLink "LotOffice$Roll" (11 : Nat) ({ cls := "LotOffice$Lot", name := "<init>", desc := "()V" } : Jvm.MethodName) ∈ zBIG := zBIG_in (zmT2 (List.mem_of_getElem? (i := 62) (by decide +kernel))) rfl
theorem zb_384 : Cond.instanceMethod ({ cls := "LotOffice$Lot", name := "<init>", desc := "()V" } : Jvm.MethodName) ∈ zBIG := zBIG_in (zmT2 (List.mem_of_getElem? (i := 63) (by decide +kernel))) rfl
theorem zb_385 : Cond.code ({ cls := "LotOffice$Lot", name := "<init>", desc := "()V" } : Jvm.MethodName) prog_5_method_1_code (2 : Nat) (Option.none : Option Jvm.ClassFile.FieldType) ∈ zBIG := zBIG_in (zmT2 (List.mem_of_getElem? (i := 64) (by decide +kernel))) rfl
theorem zb_386 : Cond.methodLink "LotOffice$Lot" (3 : Nat) ({ cls := "java/lang/Object", name := "<init>", desc := "()V" } : Jvm.MethodName) ∈ zBIG := zBIG_in (zmT2 (List.mem_of_getElem? (i := 65) (by decide +kernel))) rfl
theorem zb_387 : Cond.fieldLink "LotOffice$Roll" (93 : Nat) "LotOffice$Lot" "day" "I" ∈ zBIG := zBIG_in (zmT2 (List.mem_of_getElem? (i := 66) (by decide +kernel))) rfl
theorem zb_388 : Cond.fieldLink "LotOffice" (167 : Nat) "LotOffice$Lot" "day" "I" ∈ zBIG := zBIG_in (zmT2 (List.mem_of_getElem? (i := 67) (by decide +kernel))) rfl
theorem zb_389 : Cond.fieldLink "LotOffice$Roll" (174 : Nat) "LotOffice$Lot" "wanted" "I" ∈ zBIG := zBIG_in (zmT2 (List.mem_of_getElem? (i := 68) (by decide +kernel))) rfl
theorem zb_390 : Cond.fieldLink "LotOffice" (172 : Nat) "LotOffice$Lot" "wanted" "I" ∈ zBIG := zBIG_in (zmT2 (List.mem_of_getElem? (i := 69) (by decide +kernel))) rfl
theorem zb_391 : Cond.fieldLink "LotOffice$Lot" (18 : Nat) "LotOffice$Lot" "weeksTold" "Z" ∈ zBIG := zBIG_in (zmT2 (List.mem_of_getElem? (i := 70) (by decide +kernel))) rfl
theorem zb_392 : Cond.fieldLink "LotOffice$Lot" (32 : Nat) "LotOffice$Lot" "lettersTold" "Z" ∈ zBIG := zBIG_in (zmT2 (List.mem_of_getElem? (i := 71) (by decide +kernel))) rfl
theorem zb_393 : Cond.fieldLink "LotOffice$Lot" (9 : Nat) "LotOffice$Lot" "weekPlace" "[I" ∈ zBIG := zBIG_in (zmT2 (List.mem_of_getElem? (i := 72) (by decide +kernel))) rfl
theorem zb_394 : Cond.fieldLink "LotOffice$Roll" (155 : Nat) "LotOffice$Lot" "weekPlace" "[I" ∈ zBIG := zBIG_in (zmT2 (List.mem_of_getElem? (i := 73) (by decide +kernel))) rfl
theorem zb_395 : Cond.fieldLink "LotOffice$Lot" (15 : Nat) "LotOffice$Lot" "letterPlace" "[I" ∈ zBIG := zBIG_in (zmT2 (List.mem_of_getElem? (i := 74) (by decide +kernel))) rfl
theorem zb_396 : Cond.fieldLink "LotOffice$Roll" (164 : Nat) "LotOffice$Lot" "letterPlace" "[I" ∈ zBIG := zBIG_in (zmT2 (List.mem_of_getElem? (i := 75) (by decide +kernel))) rfl
theorem zb_410 : Cond.fieldLink "LotOffice$Roll" (50 : Nat) "LotOffice$Roll" "number" "I" ∈ zBIG := zBIG_in (zmT2 (List.mem_of_getElem? (i := 89) (by decide +kernel))) rfl
theorem zb_411 : Cond.fieldLink "LotOffice$Roll" (12 : Nat) "LotOffice$Roll" "lot" "LLotOffice$Lot;" ∈ zBIG := zBIG_in (zmT2 (List.mem_of_getElem? (i := 90) (by decide +kernel))) rfl
theorem zb_412 : Cond.fieldLink "LotOffice" (163 : Nat) "LotOffice$Roll" "lot" "LLotOffice$Lot;" ∈ zBIG := zBIG_in (zmT2 (List.mem_of_getElem? (i := 91) (by decide +kernel))) rfl
theorem zb_413 : Cond.fieldLink "LotOffice$Roll" (18 : Nat) "LotOffice$Roll" "asked" "[I" ∈ zBIG := zBIG_in (zmT2 (List.mem_of_getElem? (i := 92) (by decide +kernel))) rfl
theorem zb_414 : Cond.fieldLink "LotOffice$Roll" (22 : Nat) "LotOffice$Roll" "state" "[I" ∈ zBIG := zBIG_in (zmT2 (List.mem_of_getElem? (i := 93) (by decide +kernel))) rfl
theorem zb_415 : Cond.fieldLink "LotOffice" (218 : Nat) "LotOffice$Roll" "state" "[I" ∈ zBIG := zBIG_in (zmT2 (List.mem_of_getElem? (i := 94) (by decide +kernel))) rfl
theorem zb_416 : Cond.fieldLink "LotOffice$Roll" (25 : Nat) "LotOffice$Roll" "line" "[I" ∈ zBIG := zBIG_in (zmT2 (List.mem_of_getElem? (i := 95) (by decide +kernel))) rfl
theorem zb_417 : Cond.fieldLink "LotOffice" (215 : Nat) "LotOffice$Roll" "line" "[I" ∈ zBIG := zBIG_in (zmT2 (List.mem_of_getElem? (i := 96) (by decide +kernel))) rfl
theorem zb_418 : Cond.fieldLink "LotOffice$Roll" (28 : Nat) "LotOffice$Roll" "order" "[I" ∈ zBIG := zBIG_in (zmT2 (List.mem_of_getElem? (i := 97) (by decide +kernel))) rfl
theorem zb_419 : Cond.fieldLink "LotOffice$Roll" (31 : Nat) "LotOffice$Roll" "place" "[I" ∈ zBIG := zBIG_in (zmT2 (List.mem_of_getElem? (i := 98) (by decide +kernel))) rfl
theorem zb_420 : Cond.fieldLink "LotOffice" (227 : Nat) "LotOffice$Roll" "place" "[I" ∈ zBIG := zBIG_in (zmT2 (List.mem_of_getElem? (i := 99) (by decide +kernel))) rfl
theorem zb_421 : Cond.fieldLink "LotOffice$Roll" (34 : Nat) "LotOffice$Roll" "listed" "[I" ∈ zBIG := zBIG_in (zmT2 (List.mem_of_getElem? (i := 100) (by decide +kernel))) rfl
theorem zb_422 : Cond.fieldLink "LotOffice$Roll" (37 : Nat) "LotOffice$Roll" "quota" "[I" ∈ zBIG := zBIG_in (zmT2 (List.mem_of_getElem? (i := 101) (by decide +kernel))) rfl
theorem zb_423 : Cond.fieldLink "LotOffice$Fields" (48 : Nat) "LotOffice$Roll" "quota" "[I" ∈ zBIG := zBIG_in (zmT2 (List.mem_of_getElem? (i := 102) (by decide +kernel))) rfl
theorem zb_424 : Cond.fieldLink "LotOffice" (221 : Nat) "LotOffice$Roll" "quota" "[I" ∈ zBIG := zBIG_in (zmT2 (List.mem_of_getElem? (i := 103) (by decide +kernel))) rfl
theorem zb_425 : Cond.fieldLink "LotOffice$Roll" (40 : Nat) "LotOffice$Roll" "rest" "[I" ∈ zBIG := zBIG_in (zmT2 (List.mem_of_getElem? (i := 104) (by decide +kernel))) rfl
theorem zb_426 : Cond.fieldLink "LotOffice$Roll" (177 : Nat) "LotOffice$Roll" "called" "I" ∈ zBIG := zBIG_in (zmT2 (List.mem_of_getElem? (i := 105) (by decide +kernel))) rfl
theorem zb_427 : Cond.fieldLink "LotOffice" (229 : Nat) "LotOffice$Roll" "called" "I" ∈ zBIG := zBIG_in (zmT2 (List.mem_of_getElem? (i := 106) (by decide +kernel))) rfl
theorem zb_428 : Cond.fieldLink "LotOffice$Roll" (43 : Nat) "LotOffice$Roll" "sent" "[I" ∈ zBIG := zBIG_in (zmT2 (List.mem_of_getElem? (i := 107) (by decide +kernel))) rfl
theorem zb_429 : Cond.fieldLink "LotOffice$Roll" (46 : Nat) "LotOffice$Roll" "wasSent" "[Z" ∈ zBIG := zBIG_in (zmT2 (List.mem_of_getElem? (i := 108) (by decide +kernel))) rfl
theorem zb_457 : Cond.fieldLink "LotOffice" (10 : Nat) "LotOffice" "tape" "LLotOffice$Tape;" ∈ zBIG := zBIG_in (zmT2 (List.mem_of_getElem? (i := 136) (by decide +kernel))) rfl
theorem zb_458 : Cond.fieldLink "LotOffice" (19 : Nat) "LotOffice" "people" "LLotOffice$People;" ∈ zBIG := zBIG_in (zmT2 (List.mem_of_getElem? (i := 137) (by decide +kernel))) rfl
theorem zb_459 : Cond.fieldLink "LotOffice" (26 : Nat) "LotOffice" "reader" "LLotOffice$Reader;" ∈ zBIG := zBIG_in (zmT2 (List.mem_of_getElem? (i := 138) (by decide +kernel))) rfl
theorem zb_460 : Cond.fieldLink "LotOffice" (33 : Nat) "LotOffice" "noLaw" "LLotOffice$Law;" ∈ zBIG := zBIG_in (zmT2 (List.mem_of_getElem? (i := 139) (by decide +kernel))) rfl
theorem zb_461 : Cond.fieldLink "LotOffice" (37 : Nat) "LotOffice" "laws" "[LLotOffice$Law;" ∈ zBIG := zBIG_in (zmT2 (List.mem_of_getElem? (i := 140) (by decide +kernel))) rfl
theorem zb_462 : Cond.fieldLink "LotOffice" (43 : Nat) "LotOffice" "rolls" "[LLotOffice$Roll;" ∈ zBIG := zBIG_in (zmT2 (List.mem_of_getElem? (i := 141) (by decide +kernel))) rfl
theorem zb_463 : Cond.fieldLink "LotOffice" (50 : Nat) "LotOffice" "fields" "LLotOffice$Fields;" ∈ zBIG := zBIG_in (zmT2 (List.mem_of_getElem? (i := 142) (by decide +kernel))) rfl
theorem zb_464 : Cond.fieldLink "LotOffice" (54 : Nat) "LotOffice" "calledBefore" "[Z" ∈ zBIG := zBIG_in (zmT2 (List.mem_of_getElem? (i := 143) (by decide +kernel))) rfl
theorem zb_465 : Cond.fieldLink "LotOffice" (58 : Nat) "LotOffice" "mendedMen" "[I" ∈ zBIG := zBIG_in (zmT2 (List.mem_of_getElem? (i := 144) (by decide +kernel))) rfl
theorem zb_466 : Cond.fieldLink "LotOffice" (249 : Nat) "LotOffice" "mendedCount" "I" ∈ zBIG := zBIG_in (zmT2 (List.mem_of_getElem? (i := 145) (by decide +kernel))) rfl
theorem zb_467 : Cond.fieldLink "LotOffice" (79 : Nat) "LotOffice" "today" "I" ∈ zBIG := zBIG_in (zmT2 (List.mem_of_getElem? (i := 146) (by decide +kernel))) rfl
theorem zb_468 : Cond.fieldLink "LotOffice" (135 : Nat) "LotOffice" "lawCount" "I" ∈ zBIG := zBIG_in (zmT2 (List.mem_of_getElem? (i := 147) (by decide +kernel))) rfl
theorem zb_469 : Cond.fieldLink "LotOffice" (160 : Nat) "LotOffice" "lotCount" "I" ∈ zBIG := zBIG_in (zmT2 (List.mem_of_getElem? (i := 148) (by decide +kernel))) rfl
theorem zb_470 : Cond.fieldLink "LotOffice" (145 : Nat) "LotOffice" "lawFault" "I" ∈ zBIG := zBIG_in (zmT2 (List.mem_of_getElem? (i := 149) (by decide +kernel))) rfl
theorem zb_471 : Cond.fieldLink "LotOffice" (62 : Nat) "LotOffice" "whyLine" "I" ∈ zBIG := zBIG_in (zmT2 (List.mem_of_getElem? (i := 150) (by decide +kernel))) rfl
theorem zb_472 : Cond.fieldLink "LotOffice" (252 : Nat) "LotOffice" "appealCount" "I" ∈ zBIG := zBIG_in (zmT2 (List.mem_of_getElem? (i := 151) (by decide +kernel))) rfl
theorem zb_473 : Cond.fieldLink "LotOffice" (258 : Nat) "LotOffice" "heardCount" "I" ∈ zBIG := zBIG_in (zmT2 (List.mem_of_getElem? (i := 152) (by decide +kernel))) rfl
theorem zb_509 : Cond.methodLink "LotOfficeLaw" (23 : Nat) ({ cls := "LotOffice", name := "feed", desc := "(IIIII)I" } : Jvm.MethodName) ∈ zBIG := zBIG_in (zmT2 (List.mem_of_getElem? (i := 188) (by decide +kernel))) rfl
theorem zb_510 : Cond.instanceMethod ({ cls := "LotOffice", name := "feed", desc := "(IIIII)I" } : Jvm.MethodName) ∈ zBIG := zBIG_in (zmT2 (List.mem_of_getElem? (i := 189) (by decide +kernel))) rfl
theorem zb_511 : Cond.selects "LotOffice" ({ cls := "LotOffice", name := "feed", desc := "(IIIII)I" } : Jvm.MethodName) ({ cls := "LotOffice", name := "feed", desc := "(IIIII)I" } : Jvm.MethodName) ∈ zBIG := zBIG_in (zmT2 (List.mem_of_getElem? (i := 190) (by decide +kernel))) rfl
