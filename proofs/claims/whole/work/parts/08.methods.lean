/-! the methods: name, bytes, locals, what they return; rank; what they make -/
abbrev mCod_rowAt : uM := (⟨"UnmarkedPages$Codes", "rowAt", "(I)LUnmarkedPages$Row;"⟩, prog_2_method_3_code, 2, (some ((.object "UnmarkedPages$Row") : FieldType)), (0, 0, 0), none)
abbrev mCod_bitsOfCode : uM := (⟨"UnmarkedPages$Codes", "bitsOfCode", "(I)I"⟩, prog_2_method_6_code, 3, (some (.int : FieldType)), (0, 0, 0), none)
abbrev mFrl_size : uM := (⟨"UnmarkedPages$FrontList", "size", "()I"⟩, prog_3_method_2_code, 1, (some (.int : FieldType)), (0, 0, 0), none)
abbrev mFrl_clear : uM := (⟨"UnmarkedPages$FrontList", "clear", "()V"⟩, prog_3_method_3_code, 1, none, (0, 0, 0), none)
abbrev mFrl_at : uM := (⟨"UnmarkedPages$FrontList", "at", "(I)J"⟩, prog_3_method_4_code, 2, (some (.long : FieldType)), (0, 0, 0), none)
abbrev mFrl_placeOf : uM := (⟨"UnmarkedPages$FrontList", "placeOf", "(J)I"⟩, prog_3_method_5_code, 4, (some (.int : FieldType)), (0, 0, 0), none)
abbrev mKno_namesIn : uM := (⟨"UnmarkedPages$Known", "namesIn", "(I)LUnmarkedPages$FrontList;"⟩, prog_4_method_3_code, 2, (some ((.object "UnmarkedPages$FrontList") : FieldType)), (0, 0, 0), none)
abbrev mRea_hasFault : uM := (⟨"UnmarkedPages$Reader", "hasFault", "()Z"⟩, prog_7_method_2_code, 1, (some (.boolean : FieldType)), (0, 0, 0), none)
abbrev mRea_tell : uM := (⟨"UnmarkedPages$Reader", "tell", "(III)V"⟩, prog_7_method_15_code, 4, none, (0, 0, 0), none)
abbrev mRow_size : uM := (⟨"UnmarkedPages$Row", "size", "()I"⟩, prog_8_method_2_code, 1, (some (.int : FieldType)), (0, 0, 0), none)
abbrev mRow_clear : uM := (⟨"UnmarkedPages$Row", "clear", "()V"⟩, prog_8_method_3_code, 1, none, (0, 0, 0), none)
abbrev mRow_at : uM := (⟨"UnmarkedPages$Row", "at", "(I)I"⟩, prog_8_method_4_code, 2, (some (.int : FieldType)), (0, 0, 0), none)
abbrev mRow_add : uM := (⟨"UnmarkedPages$Row", "add", "(I)V"⟩, prog_8_method_5_code, 2, none, (0, 0, 0), none)
abbrev mRow_put : uM := (⟨"UnmarkedPages$Row", "put", "(II)V"⟩, prog_8_method_6_code, 3, none, (0, 0, 0), none)
abbrev mRow_fill : uM := (⟨"UnmarkedPages$Row", "fill", "(I)V"⟩, prog_8_method_7_code, 3, none, (0, 0, 0), none)
abbrev mRow_last : uM := (⟨"UnmarkedPages$Row", "last", "()I"⟩, prog_8_method_8_code, 1, (some (.int : FieldType)), (0, 0, 0), none)
abbrev mRow_removeLast : uM := (⟨"UnmarkedPages$Row", "removeLast", "()V"⟩, prog_8_method_9_code, 1, none, (0, 0, 0), none)
abbrev mRow_placeOf : uM := (⟨"UnmarkedPages$Row", "placeOf", "(I)I"⟩, prog_8_method_10_code, 3, (some (.int : FieldType)), (0, 0, 0), none)
abbrev mRow_countOf : uM := (⟨"UnmarkedPages$Row", "countOf", "(I)I"⟩, prog_8_method_11_code, 4, (some (.int : FieldType)), (0, 0, 0), none)
abbrev mSta_hasPage : uM := (⟨"UnmarkedPages$State", "hasPage", "(I)Z"⟩, prog_9_method_6_code, 2, (some (.boolean : FieldType)), (0, 0, 0), none)
abbrev mSta_pageAt : uM := (⟨"UnmarkedPages$State", "pageAt", "(I)LUnmarkedPages$Page;"⟩, prog_9_method_7_code, 2, (some ((.object "UnmarkedPages$Page") : FieldType)), (0, 0, 0), none)
abbrev mSta_bringToFront : uM := (⟨"UnmarkedPages$State", "bringToFront", "(I)V"⟩, prog_9_method_9_code, 4, none, (0, 0, 0), none)
abbrev mUmp_codesOf : uM := (⟨"UnmarkedPages", "codesOf", "(I)LUnmarkedPages$Codes;"⟩, prog_1_method_24_code, 2, (some ((.object "UnmarkedPages$Codes") : FieldType)), (0, 0, 0), none)
abbrev mUmp_isName : uM := (⟨"UnmarkedPages", "isName", "(I)Z"⟩, prog_1_method_25_code, 1, (some (.boolean : FieldType)), (0, 0, 0), none)
abbrev mUmp_isNameLetter : uM := (⟨"UnmarkedPages", "isNameLetter", "(I)Z"⟩, prog_1_method_26_code, 1, (some (.boolean : FieldType)), (0, 0, 0), none)
abbrev mMod_in : uM := (⟨"UnmarkedPagesModel", "in", "(III)Z"⟩, prog_11_method_2_code, 3, (some (.boolean : FieldType)), (0, 0, 0), none)
abbrev mMod_record : uM := (⟨"UnmarkedPagesModel", "record", "()V"⟩, prog_11_method_5_code, 2, none, (0, 0, 0), none)
abbrev mMod_box : uM := (⟨"UnmarkedPagesModel", "box", "(II)I"⟩, prog_11_method_6_code, 3, (some (.int : FieldType)), (0, 0, 0), none)
abbrev mMod_boxes : uM := (⟨"UnmarkedPagesModel", "boxes", "(III)V"⟩, prog_11_method_7_code, 4, none, (0, 0, 0), none)
abbrev mMod_fails : uM := (⟨"UnmarkedPagesModel", "fails", "(III)Z"⟩, prog_11_method_8_code, 4, (some (.boolean : FieldType)), (0, 0, 0), none)
abbrev mMod_steps : uM := (⟨"UnmarkedPagesModel", "steps", "(II)V"⟩, prog_11_method_10_code, 3, none, (0, 0, 0), none)
abbrev mMod_rankOf : uM := (⟨"UnmarkedPagesModel", "rankOf", "(III)I"⟩, prog_11_method_12_code, 10, (some (.int : FieldType)), (0, 0, 0), none)
abbrev mMod_takesText : uM := (⟨"UnmarkedPagesModel", "takesText", "()V"⟩, prog_11_method_18_code, 2, none, (0, 0, 0), none)
abbrev mMod_forgets : uM := (⟨"UnmarkedPagesModel", "forgets", "()V"⟩, prog_11_method_20_code, 2, none, (0, 0, 0), none)
abbrev mMod_codes : uM := (⟨"UnmarkedPagesModel", "codes", "(II)V"⟩, prog_11_method_21_code, 3, none, (0, 0, 0), none)
abbrev mMod_isWord : uM := (⟨"UnmarkedPagesModel", "isWord", "(III)Z"⟩, prog_11_method_24_code, 6, (some (.boolean : FieldType)), (0, 0, 0), none)
abbrev mMod_bitsOf : uM := (⟨"UnmarkedPagesModel", "bitsOf", "(I)I"⟩, prog_11_method_28_code, 3, (some (.int : FieldType)), (0, 0, 0), none)
abbrev mMod_rules : uM := (⟨"UnmarkedPagesModel", "rules", "()I"⟩, prog_11_method_32_code, 3, (some (.int : FieldType)), (0, 0, 0), none)
abbrev mMod_type : uM := (⟨"UnmarkedPagesModel", "type", "(C)I"⟩, prog_11_method_37_code, 2, (some (.int : FieldType)), (0, 0, 0), none)
abbrev mMod_clearText : uM := (⟨"UnmarkedPagesModel", "clearText", "()I"⟩, prog_11_method_38_code, 2, (some (.int : FieldType)), (0, 0, 0), none)
abbrev mMod_undo : uM := (⟨"UnmarkedPagesModel", "undo", "()I"⟩, prog_11_method_40_code, 2, (some (.int : FieldType)), (0, 0, 0), none)
abbrev mMod_keep : uM := (⟨"UnmarkedPagesModel", "keep", "()I"⟩, prog_11_method_41_code, 2, (some (.int : FieldType)), (0, 0, 0), none)
abbrev mInt_bitCount : uM := (⟨"java/lang/Integer", "bitCount", "(I)I"⟩, prog_12_method_49_code, 1, (some (.int : FieldType)), (0, 0, 0), none)
abbrev mCod_clear : uM := (⟨"UnmarkedPages$Codes", "clear", "()V"⟩, prog_2_method_2_code, 1, none, (1, 0, 0), none)
abbrev mCod_bitsOfRow : uM := (⟨"UnmarkedPages$Codes", "bitsOfRow", "(I)I"⟩, prog_2_method_4_code, 5, (some (.int : FieldType)), (1, 0, 0), none)
abbrev mFrl_init : uM := (⟨"UnmarkedPages$FrontList", "<init>", "(I)V"⟩, prog_3_method_1_code, 2, none, (1, 1, 238), none)
abbrev mFrl_meet : uM := (⟨"UnmarkedPages$FrontList", "meet", "(J)V"⟩, prog_3_method_6_code, 5, none, (1, 0, 0), none)
abbrev mKno_forget : uM := (⟨"UnmarkedPages$Known", "forget", "()V"⟩, prog_4_method_2_code, 2, none, (1, 0, 0), none)
abbrev mKno_valueOf : uM := (⟨"UnmarkedPages$Known", "valueOf", "(II)I"⟩, prog_4_method_4_code, 3, (some (.int : FieldType)), (1, 0, 0), none)
abbrev mPag_clear : uM := (⟨"UnmarkedPages$Page", "clear", "()V"⟩, prog_5_method_2_code, 1, none, (1, 0, 0), none)
abbrev mPag_addBox : uM := (⟨"UnmarkedPages$Page", "addBox", "(III)V"⟩, prog_5_method_4_code, 4, none, (1, 0, 0), none)
abbrev mPag_addWord : uM := (⟨"UnmarkedPages$Page", "addWord", "(II)V"⟩, prog_5_method_5_code, 3, none, (1, 0, 0), none)
abbrev mPag_lengthenWord : uM := (⟨"UnmarkedPages$Page", "lengthenWord", "()V"⟩, prog_5_method_6_code, 1, none, (1, 0, 0), none)
abbrev mPag_keyOfNote : uM := (⟨"UnmarkedPages$Page", "keyOfNote", "(II)I"⟩, prog_5_method_7_code, 4, (some (.int : FieldType)), (1, 0, 0), none)
abbrev mPag_boxInside : uM := (⟨"UnmarkedPages$Page", "boxInside", "(III)I"⟩, prog_5_method_11_code, 6, (some (.int : FieldType)), (1, 0, 0), none)
abbrev mPth_partCount : uM := (⟨"UnmarkedPages$PathReader", "partCount", "()I"⟩, prog_6_method_3_code, 1, (some (.int : FieldType)), (1, 0, 0), none)
abbrev mPth_takes : uM := (⟨"UnmarkedPages$PathReader", "takes", "(I)Z"⟩, prog_6_method_5_code, 2, (some (.boolean : FieldType)), (1, 0, 0), none)
abbrev mRea_expect : uM := (⟨"UnmarkedPages$Reader", "expect", "(ZII)V"⟩, prog_7_method_5_code, 4, none, (1, 0, 0), none)
abbrev mRea_takeKey : uM := (⟨"UnmarkedPages$Reader", "takeKey", "(II)V"⟩, prog_7_method_8_code, 4, none, (1, 0, 0), none)
abbrev mRea_latestName : uM := (⟨"UnmarkedPages$Reader", "latestName", "()I"⟩, prog_7_method_13_code, 1, (some (.int : FieldType)), (1, 0, 0), none)
abbrev mRea_close : uM := (⟨"UnmarkedPages$Reader", "close", "(I)V"⟩, prog_7_method_14_code, 2, none, (1, 0, 0), none)
abbrev mRow_init : uM := (⟨"UnmarkedPages$Row", "<init>", "(I)V"⟩, prog_8_method_1_code, 2, none, (1, 1, 100), none)
abbrev mRow_become : uM := (⟨"UnmarkedPages$Row", "become", "(LUnmarkedPages$Row;)V"⟩, prog_8_method_12_code, 4, none, (1, 0, 0), none)
abbrev mSta_ends : uM := (⟨"UnmarkedPages$State", "ends", "(II)Z"⟩, prog_9_method_3_code, 3, (some (.boolean : FieldType)), (1, 0, 0), none)
abbrev mSta_setEnds : uM := (⟨"UnmarkedPages$State", "setEnds", "(IIZ)V"⟩, prog_9_method_4_code, 4, none, (1, 0, 0), none)
abbrev mSta_ruleCount : uM := (⟨"UnmarkedPages$State", "ruleCount", "()I"⟩, prog_9_method_5_code, 1, (some (.int : FieldType)), (1, 0, 0), none)
abbrev mSta_letterCount : uM := (⟨"UnmarkedPages$State", "letterCount", "()I"⟩, prog_9_method_10_code, 3, (some (.int : FieldType)), (1, 0, 0), none)
abbrev mSta_stepCount : uM := (⟨"UnmarkedPages$State", "stepCount", "(I)I"⟩, prog_9_method_11_code, 4, (some (.int : FieldType)), (1, 0, 0), none)
abbrev mUmp_type : uM := (⟨"UnmarkedPages", "type", "(C)I"⟩, prog_1_method_6_code, 2, (some (.int : FieldType)), (1, 0, 0), none)
abbrev mUmp_clearText : uM := (⟨"UnmarkedPages", "clearText", "()I"⟩, prog_1_method_7_code, 2, (some (.int : FieldType)), (1, 0, 0), none)
abbrev mUmp_charAt : uM := (⟨"UnmarkedPages", "charAt", "(II)I"⟩, prog_1_method_12_code, 4, (some (.int : FieldType)), (1, 0, 0), none)
abbrev mUmp_code : uM := (⟨"UnmarkedPages", "code", "(III)I"⟩, prog_1_method_13_code, 5, (some (.int : FieldType)), (1, 0, 0), none)
abbrev mUmp_known : uM := (⟨"UnmarkedPages", "known", "(II)I"⟩, prog_1_method_17_code, 4, (some (.int : FieldType)), (1, 0, 0), none)
abbrev mMod_init : uM := (⟨"UnmarkedPagesModel", "<init>", "()V"⟩, prog_11_method_1_code, 1, none, (1, 20, 10353), none)
abbrev mMod_no : uM := (⟨"UnmarkedPagesModel", "no", "(I)Z"⟩, prog_11_method_3_code, 2, (some (.boolean : FieldType)), (1, 0, 0), none)
abbrev mMod_noName : uM := (⟨"UnmarkedPagesModel", "noName", "(I)Z"⟩, prog_11_method_4_code, 1, (some (.boolean : FieldType)), (1, 0, 0), none)
abbrev mMod_isAt : uM := (⟨"UnmarkedPagesModel", "isAt", "(III)Z"⟩, prog_11_method_9_code, 4, (some (.boolean : FieldType)), (1, 0, 0), none)
abbrev mMod_implies : uM := (⟨"UnmarkedPagesModel", "implies", "(IZ)V"⟩, prog_11_method_11_code, 5, none, (1, 0, 0), none)
abbrev mMod_codesName : uM := (⟨"UnmarkedPagesModel", "codesName", "(I)V"⟩, prog_11_method_22_code, 6, none, (1, 0, 0), none)
abbrev mMod_codesNotes : uM := (⟨"UnmarkedPagesModel", "codesNotes", "(I)V"⟩, prog_11_method_23_code, 7, none, (1, 0, 0), none)
abbrev mMod_codesWord : uM := (⟨"UnmarkedPagesModel", "codesWord", "(II)V"⟩, prog_11_method_25_code, 5, none, (1, 0, 0), none)
abbrev mMod_rowBits : uM := (⟨"UnmarkedPagesModel", "rowBits", "(I)I"⟩, prog_11_method_29_code, 4, (some (.int : FieldType)), (1, 0, 0), none)
abbrev mMod_unpackLast : uM := (⟨"UnmarkedPagesModel", "unpackLast", "()I"⟩, prog_11_method_35_code, 1, (some (.int : FieldType)), (1, 0, 0), none)
abbrev mMod_restore : uM := (⟨"UnmarkedPagesModel", "restore", "()I"⟩, prog_11_method_42_code, 2, (some (.int : FieldType)), (1, 0, 0), none)
abbrev mMod_partsOfText : uM := (⟨"UnmarkedPagesModel", "partsOfText", "()I"⟩, prog_11_method_47_code, 4, (some (.int : FieldType)), (1, 0, 0), none)
abbrev mMod_inner : uM := (⟨"UnmarkedPagesModel", "inner", "(III)I"⟩, prog_11_method_48_code, 6, (some (.int : FieldType)), (1, 0, 0), none)
abbrev mCod_init : uM := (⟨"UnmarkedPages$Codes", "<init>", "()V"⟩, prog_2_method_1_code, 1, none, (2, 8, 408), none)
abbrev mCod_bitsOfAll : uM := (⟨"UnmarkedPages$Codes", "bitsOfAll", "()I"⟩, prog_2_method_5_code, 3, (some (.int : FieldType)), (2, 0, 0), none)
abbrev mKno_init : uM := (⟨"UnmarkedPages$Known", "<init>", "()V"⟩, prog_4_method_1_code, 2, none, (2, 21, 2131), none)
abbrev mKno_takeName : uM := (⟨"UnmarkedPages$Known", "takeName", "(LUnmarkedPages$Page;ILUnmarkedPages$Row;)V"⟩, prog_4_method_6_code, 8, none, (2, 0, 0), none)
abbrev mKno_takeValue : uM := (⟨"UnmarkedPages$Known", "takeValue", "(IIILUnmarkedPages$Row;)V"⟩, prog_4_method_8_code, 6, none, (2, 0, 0), none)
abbrev mKno_takeWord : uM := (⟨"UnmarkedPages$Known", "takeWord", "(LUnmarkedPages$Page;ILUnmarkedPages$Row;)V"⟩, prog_4_method_9_code, 10, none, (2, 0, 0), none)
abbrev mPag_init : uM := (⟨"UnmarkedPages$Page", "<init>", "()V"⟩, prog_5_method_1_code, 1, none, (2, 16, 816), none)
abbrev mPag_become : uM := (⟨"UnmarkedPages$Page", "become", "(LUnmarkedPages$Page;)V"⟩, prog_5_method_3_code, 2, none, (2, 0, 0), none)
abbrev mPag_valueOfKey : uM := (⟨"UnmarkedPages$Page", "valueOfKey", "(II)I"⟩, prog_5_method_8_code, 4, (some (.int : FieldType)), (2, 0, 0), none)
abbrev mPag_keySet : uM := (⟨"UnmarkedPages$Page", "keySet", "(I)I"⟩, prog_5_method_9_code, 5, (some (.int : FieldType)), (2, 0, 0), none)
abbrev mPag_orderOfKeys : uM := (⟨"UnmarkedPages$Page", "orderOfKeys", "(II)I"⟩, prog_5_method_10_code, 8, (some (.int : FieldType)), (2, 0, 0), none)
abbrev mPth_init : uM := (⟨"UnmarkedPages$PathReader", "<init>", "()V"⟩, prog_6_method_1_code, 1, none, (2, 4, 204), none)
abbrev mPth_readFault : uM := (⟨"UnmarkedPages$PathReader", "readFault", "(LUnmarkedPages$Row;)I"⟩, prog_6_method_2_code, 3, (some (.int : FieldType)), (2, 0, 0), none)
abbrev mPth_boxIn : uM := (⟨"UnmarkedPages$PathReader", "boxIn", "(LUnmarkedPages$Page;)I"⟩, prog_6_method_4_code, 5, (some (.int : FieldType)), (2, 0, 0), none)
abbrev mRea_openBox : uM := (⟨"UnmarkedPages$Reader", "openBox", "(IILUnmarkedPages$State;)V"⟩, prog_7_method_7_code, 5, none, (2, 0, 0), none)
abbrev mRea_takeInBox : uM := (⟨"UnmarkedPages$Reader", "takeInBox", "(II)V"⟩, prog_7_method_9_code, 3, none, (2, 0, 0), none)
abbrev mRea_takeClosingEnd : uM := (⟨"UnmarkedPages$Reader", "takeClosingEnd", "(II)V"⟩, prog_7_method_11_code, 3, none, (2, 0, 0), none)
abbrev mRea_isEndedByClosing : uM := (⟨"UnmarkedPages$Reader", "isEndedByClosing", "(ILUnmarkedPages$State;)Z"⟩, prog_7_method_12_code, 4, (some (.boolean : FieldType)), (2, 0, 0), none)
abbrev mUmp_latest : uM := (⟨"UnmarkedPages", "latest", "(II)I"⟩, prog_1_method_18_code, 4, (some (.int : FieldType)), (2, 0, 0), none)
abbrev mMod_readNotes : uM := (⟨"UnmarkedPagesModel", "readNotes", "(II)I"⟩, prog_11_method_13_code, 7, (some (.int : FieldType)), (2, 0, 0), none)
abbrev mMod_closes : uM := (⟨"UnmarkedPagesModel", "closes", "(I)I"⟩, prog_11_method_15_code, 3, (some (.int : FieldType)), (2, 0, 0), none)
abbrev mMod_readWord : uM := (⟨"UnmarkedPagesModel", "readWord", "(I)I"⟩, prog_11_method_16_code, 4, (some (.int : FieldType)), (2, 0, 0), none)
abbrev mMod_packs : uM := (⟨"UnmarkedPagesModel", "packs", "()V"⟩, prog_11_method_26_code, 2, none, (2, 0, 0), none)
abbrev mMod_pageBits : uM := (⟨"UnmarkedPagesModel", "pageBits", "()I"⟩, prog_11_method_30_code, 1, (some (.int : FieldType)), (2, 0, 0), none)
abbrev mMod_rule : uM := (⟨"UnmarkedPagesModel", "rule", "(IIZ)I"⟩, prog_11_method_33_code, 4, (some (.int : FieldType)), (2, 0, 0), none)
abbrev mMod_charAt : uM := (⟨"UnmarkedPagesModel", "charAt", "(II)I"⟩, prog_11_method_43_code, 3, (some (.int : FieldType)), (2, 0, 0), none)
abbrev mKno_takeNotes : uM := (⟨"UnmarkedPages$Known", "takeNotes", "(LUnmarkedPages$Page;ILUnmarkedPages$Row;)V"⟩, prog_4_method_7_code, 7, none, (3, 0, 0), none)
abbrev mRea_init : uM := (⟨"UnmarkedPages$Reader", "<init>", "()V"⟩, prog_7_method_1_code, 1, none, (3, 21, 1028), none)
abbrev mRea_takeBehindMark : uM := (⟨"UnmarkedPages$Reader", "takeBehindMark", "(IILUnmarkedPages$State;)V"⟩, prog_7_method_6_code, 4, none, (3, 0, 0), none)
abbrev mRea_takeClosingName : uM := (⟨"UnmarkedPages$Reader", "takeClosingName", "(IILUnmarkedPages$State;)V"⟩, prog_7_method_10_code, 6, none, (3, 0, 0), none)
abbrev mSta_init : uM := (⟨"UnmarkedPages$State", "<init>", "()V"⟩, prog_9_method_1_code, 2, none, (3, 105, 5052), none)
abbrev mSta_addPage : uM := (⟨"UnmarkedPages$State", "addPage", "(LUnmarkedPages$Page;)V"⟩, prog_9_method_8_code, 2, none, (3, 0, 0), none)
abbrev mUmp_bits : uM := (⟨"UnmarkedPages", "bits", "(II)I"⟩, prog_1_method_14_code, 4, (some (.int : FieldType)), (3, 0, 0), none)
abbrev mUmp_toldOfBox : uM := (⟨"UnmarkedPages", "toldOfBox", "(LUnmarkedPages$Page;II)I"⟩, prog_1_method_20_code, 5, (some (.int : FieldType)), (3, 0, 0), none)
abbrev mUmp_bitsOfAllPages : uM := (⟨"UnmarkedPages", "bitsOfAllPages", "()I"⟩, prog_1_method_23_code, 3, (some (.int : FieldType)), (3, 0, 0), none)
abbrev mMod_opens : uM := (⟨"UnmarkedPagesModel", "opens", "(I)I"⟩, prog_11_method_14_code, 5, (some (.int : FieldType)), (3, 0, 0), none)
abbrev mKno_take : uM := (⟨"UnmarkedPages$Known", "take", "(LUnmarkedPages$Page;LUnmarkedPages$Codes;)V"⟩, prog_4_method_5_code, 4, none, (4, 0, 0), none)
abbrev mRea_take : uM := (⟨"UnmarkedPages$Reader", "take", "(IILUnmarkedPages$State;)V"⟩, prog_7_method_4_code, 4, none, (4, 0, 0), none)
abbrev mSta_become : uM := (⟨"UnmarkedPages$State", "become", "(LUnmarkedPages$State;)V"⟩, prog_9_method_2_code, 3, none, (4, 0, 0), none)
abbrev mUmp_init : uM := (⟨"UnmarkedPages", "<init>", "()V"⟩, prog_1_method_1_code, 2, none, (4, 774, 40000), none)
abbrev mUmp_path : uM := (⟨"UnmarkedPages", "path", "(II)I"⟩, prog_1_method_16_code, 6, (some (.int : FieldType)), (4, 0, 0), none)
abbrev mUmp_count : uM := (⟨"UnmarkedPages", "count", "(I)I"⟩, prog_1_method_19_code, 2, (some (.int : FieldType)), (4, 0, 0), none)
abbrev mMod_isPage : uM := (⟨"UnmarkedPagesModel", "isPage", "()Z"⟩, prog_11_method_17_code, 2, (some (.boolean : FieldType)), (4, 0, 0), none)
abbrev mRea_read : uM := (⟨"UnmarkedPages$Reader", "read", "(LUnmarkedPages$Row;LUnmarkedPages$State;)V"⟩, prog_7_method_3_code, 4, none, (5, 0, 0), none)
abbrev mUmp_keep : uM := (⟨"UnmarkedPages", "keep", "()I"⟩, prog_1_method_10_code, 1, (some (.int : FieldType)), (5, 0, 0), none)
abbrev mUmp_recordState : uM := (⟨"UnmarkedPages", "recordState", "()V"⟩, prog_1_method_21_code, 3, none, (5, 0, 0), none)
abbrev mUmp_packAnew : uM := (⟨"UnmarkedPages", "packAnew", "()V"⟩, prog_1_method_22_code, 2, none, (5, 0, 0), none)
abbrev mMod_takesPage : uM := (⟨"UnmarkedPagesModel", "takesPage", "(I)V"⟩, prog_11_method_19_code, 4, none, (5, 0, 0), none)
abbrev mMod_fault : uM := (⟨"UnmarkedPagesModel", "fault", "(I)I"⟩, prog_11_method_39_code, 2, (some (.int : FieldType)), (5, 0, 0), none)
abbrev mUmp_rule : uM := (⟨"UnmarkedPages", "rule", "(IIZ)I"⟩, prog_1_method_2_code, 4, (some (.int : FieldType)), (6, 0, 0), none)
abbrev mUmp_pack : uM := (⟨"UnmarkedPages", "pack", "()I"⟩, prog_1_method_3_code, 2, (some (.int : FieldType)), (6, 0, 0), none)
abbrev mUmp_unpackLast : uM := (⟨"UnmarkedPages", "unpackLast", "()I"⟩, prog_1_method_4_code, 1, (some (.int : FieldType)), (6, 0, 0), none)
abbrev mUmp_first : uM := (⟨"UnmarkedPages", "first", "(I)I"⟩, prog_1_method_5_code, 3, (some (.int : FieldType)), (6, 0, 0), none)
abbrev mUmp_fault : uM := (⟨"UnmarkedPages", "fault", "(I)I"⟩, prog_1_method_8_code, 2, (some (.int : FieldType)), (6, 0, 0), none)
abbrev mUmp_undo : uM := (⟨"UnmarkedPages", "undo", "()I"⟩, prog_1_method_9_code, 1, (some (.int : FieldType)), (6, 0, 0), none)
abbrev mUmp_restore : uM := (⟨"UnmarkedPages", "restore", "()I"⟩, prog_1_method_11_code, 1, (some (.int : FieldType)), (6, 0, 0), none)
abbrev mUmp_wouldTake : uM := (⟨"UnmarkedPages", "wouldTake", "(Z)I"⟩, prog_1_method_15_code, 4, (some (.int : FieldType)), (6, 0, 0), none)
abbrev mMod_packsUpTo : uM := (⟨"UnmarkedPagesModel", "packsUpTo", "(I)V"⟩, prog_11_method_27_code, 3, none, (6, 0, 0), none)
abbrev mMod_allBits : uM := (⟨"UnmarkedPagesModel", "allBits", "()I"⟩, prog_11_method_31_code, 3, (some (.int : FieldType)), (6, 0, 0), none)
abbrev mMod_path : uM := (⟨"UnmarkedPagesModel", "path", "(II)I"⟩, prog_11_method_49_code, 6, (some (.int : FieldType)), (6, 0, 0), none)
abbrev mMod_overPages : uM := (⟨"UnmarkedPagesModel", "overPages", "(I)I"⟩, prog_11_method_52_code, 4, (some (.int : FieldType)), (6, 0, 0), none)
abbrev mMod_pack : uM := (⟨"UnmarkedPagesModel", "pack", "()I"⟩, prog_11_method_34_code, 3, (some (.int : FieldType)), (7, 0, 0), none)
abbrev mMod_first : uM := (⟨"UnmarkedPagesModel", "first", "(I)I"⟩, prog_11_method_36_code, 6, (some (.int : FieldType)), (7, 0, 0), none)
abbrev mMod_code : uM := (⟨"UnmarkedPagesModel", "code", "(III)I"⟩, prog_11_method_44_code, 4, (some (.int : FieldType)), (7, 0, 0), none)
abbrev mMod_bits : uM := (⟨"UnmarkedPagesModel", "bits", "(II)I"⟩, prog_11_method_45_code, 3, (some (.int : FieldType)), (7, 0, 0), none)
abbrev mMod_wouldTake : uM := (⟨"UnmarkedPagesModel", "wouldTake", "(Z)I"⟩, prog_11_method_46_code, 2, (some (.int : FieldType)), (7, 0, 0), none)
abbrev mMod_known : uM := (⟨"UnmarkedPagesModel", "known", "(II)I"⟩, prog_11_method_50_code, 3, (some (.int : FieldType)), (7, 0, 0), none)
abbrev mMod_latest : uM := (⟨"UnmarkedPagesModel", "latest", "(II)I"⟩, prog_11_method_51_code, 3, (some (.int : FieldType)), (7, 0, 0), none)
abbrev mMod_count : uM := (⟨"UnmarkedPagesModel", "count", "(I)I"⟩, prog_11_method_53_code, 2, (some (.int : FieldType)), (7, 0, 0), none)
abbrev mLaw_law (b L : Nat) (xs : Nat → Int32) : uM := (x, code, maxLocals, ret, (9, 600000, 7302250), some (b, L, xs))
/-! what links: fields -/
set_option maxRecDepth 20000 in
theorem kF_Cod_14 : u_lkF "UnmarkedPages$Codes" 14 0 0 (.object "UnmarkedPages$Row") := ⟨("UnmarkedPages$Codes", uf_T uf_0, 4), rfl, by decide, rfl, by decide +kernel, Or.inl (uw_mem 269 rfl rfl)⟩
set_option maxRecDepth 20000 in
theorem kF_Cod_20 : u_lkF "UnmarkedPages$Codes" 20 0 1 (.object "UnmarkedPages$Row") := ⟨("UnmarkedPages$Codes", uf_T uf_0, 4), rfl, by decide, rfl, by decide +kernel, Or.inl (uw_mem 271 rfl rfl)⟩
set_option maxRecDepth 20000 in
theorem kF_Cod_23 : u_lkF "UnmarkedPages$Codes" 23 0 2 (.object "UnmarkedPages$Row") := ⟨("UnmarkedPages$Codes", uf_T uf_0, 4), rfl, by decide, rfl, by decide +kernel, Or.inl (uw_mem 273 rfl rfl)⟩
set_option maxRecDepth 20000 in
theorem kF_Cod_26 : u_lkF "UnmarkedPages$Codes" 26 0 3 (.object "UnmarkedPages$Row") := ⟨("UnmarkedPages$Codes", uf_T uf_0, 4), rfl, by decide, rfl, by decide +kernel, Or.inl (uw_mem 275 rfl rfl)⟩
set_option maxRecDepth 20000 in
theorem kF_Frl_21 : u_lkF "UnmarkedPages$FrontList" 21 1 1 (.int) := ⟨("UnmarkedPages$FrontList", uf_T uf_1, 2), rfl, by decide, rfl, by decide +kernel, Or.inl (uw_mem 236 rfl rfl)⟩
set_option maxRecDepth 20000 in
theorem kP_Frl_21 : u_lkP "UnmarkedPages$FrontList" 21 1 1 (.int) := ⟨("UnmarkedPages$FrontList", uf_T uf_1, 2), rfl, by decide, rfl, rfl, by decide +kernel, uw_mem 236 rfl rfl⟩
set_option maxRecDepth 20000 in
theorem kF_Frl_15 : u_lkF "UnmarkedPages$FrontList" 15 1 0 (.array .long) := ⟨("UnmarkedPages$FrontList", uf_T uf_1, 2), rfl, by decide, rfl, by decide +kernel, Or.inl (uw_mem 235 rfl rfl)⟩
set_option maxRecDepth 20000 in
theorem kF_Kno_11 : u_lkF "UnmarkedPages$Known" 11 2 0 (.array (.object "UnmarkedPages$FrontList")) := ⟨("UnmarkedPages$Known", uf_T uf_2, 4), rfl, by decide, rfl, by decide +kernel, Or.inl (uw_mem 246 rfl rfl)⟩
set_option maxRecDepth 20000 in
theorem kF_Rea_18 : u_lkF "UnmarkedPages$Reader" 18 5 2 (.int) := ⟨("UnmarkedPages$Reader", uf_T uf_5, 7), rfl, by decide, rfl, by decide +kernel, Or.inl (uw_mem 154 rfl rfl)⟩
set_option maxRecDepth 20000 in
theorem kP_Rea_139 : u_lkP "UnmarkedPages$Reader" 139 5 1 (.int) := ⟨("UnmarkedPages$Reader", uf_T uf_5, 7), rfl, by decide, rfl, rfl, by decide +kernel, uw_mem 153 rfl rfl⟩
set_option maxRecDepth 20000 in
theorem kP_Rea_18 : u_lkP "UnmarkedPages$Reader" 18 5 2 (.int) := ⟨("UnmarkedPages$Reader", uf_T uf_5, 7), rfl, by decide, rfl, rfl, by decide +kernel, uw_mem 154 rfl rfl⟩
set_option maxRecDepth 20000 in
theorem kP_Rea_142 : u_lkP "UnmarkedPages$Reader" 142 5 3 (.int) := ⟨("UnmarkedPages$Reader", uf_T uf_5, 7), rfl, by decide, rfl, rfl, by decide +kernel, uw_mem 157 rfl rfl⟩
set_option maxRecDepth 20000 in
theorem kF_Row_21 : u_lkF "UnmarkedPages$Row" 21 6 1 (.int) := ⟨("UnmarkedPages$Row", uf_T uf_6, 2), rfl, by decide, rfl, by decide +kernel, Or.inl (uw_mem 83 rfl rfl)⟩
set_option maxRecDepth 20000 in
theorem kP_Row_21 : u_lkP "UnmarkedPages$Row" 21 6 1 (.int) := ⟨("UnmarkedPages$Row", uf_T uf_6, 2), rfl, by decide, rfl, rfl, by decide +kernel, uw_mem 83 rfl rfl⟩
set_option maxRecDepth 20000 in
theorem kF_Row_15 : u_lkF "UnmarkedPages$Row" 15 6 0 (.array .int) := ⟨("UnmarkedPages$Row", uf_T uf_6, 2), rfl, by decide, rfl, by decide +kernel, Or.inl (uw_mem 82 rfl rfl)⟩
set_option maxRecDepth 20000 in
theorem kF_Sta_34 : u_lkF "UnmarkedPages$State" 34 7 2 (.int) := ⟨("UnmarkedPages$State", uf_T uf_7, 3), rfl, by decide, rfl, by decide +kernel, Or.inl (uw_mem 211 rfl rfl)⟩
set_option maxRecDepth 20000 in
theorem kF_Sta_22 : u_lkF "UnmarkedPages$State" 22 7 1 (.array (.object "UnmarkedPages$Page")) := ⟨("UnmarkedPages$State", uf_T uf_7, 3), rfl, by decide, rfl, by decide +kernel, Or.inl (uw_mem 210 rfl rfl)⟩
set_option maxRecDepth 20000 in
theorem kF_Ump_55 : u_lkF "UnmarkedPages" 55 8 9 (.array (.object "UnmarkedPages$Codes")) := ⟨("UnmarkedPages", uf_T uf_8, 12), rfl, by decide, rfl, by decide +kernel, Or.inl (uw_mem 295 rfl rfl)⟩
set_option maxRecDepth 20000 in
theorem kF_Ump_63 : u_lkF "UnmarkedPages" 63 8 11 (.object "UnmarkedPages$Codes") := ⟨("UnmarkedPages", uf_T uf_8, 12), rfl, by decide, rfl, by decide +kernel, Or.inl (uw_mem 297 rfl rfl)⟩
set_option maxRecDepth 20000 in
theorem kF_Mod_75 : u_lkF "UnmarkedPagesModel" 75 9 2 (.int) := ⟨("UnmarkedPagesModel", uf_T uf_9, 32), rfl, by decide, rfl, by decide +kernel, Or.inl (uw_mem 744 rfl rfl)⟩
set_option maxRecDepth 20000 in
theorem kF_Mod_13 : u_lkF "UnmarkedPagesModel" 13 9 1 (.array .int) := ⟨("UnmarkedPagesModel", uf_T uf_9, 32), rfl, by decide, rfl, by decide +kernel, Or.inl (uw_mem 743 rfl rfl)⟩
set_option maxRecDepth 20000 in
theorem kP_Mod_75 : u_lkP "UnmarkedPagesModel" 75 9 2 (.int) := ⟨("UnmarkedPagesModel", uf_T uf_9, 32), rfl, by decide, rfl, rfl, by decide +kernel, uw_mem 744 rfl rfl⟩
set_option maxRecDepth 20000 in
theorem kF_Mod_7 : u_lkF "UnmarkedPagesModel" 7 9 0 (.array .int) := ⟨("UnmarkedPagesModel", uf_T uf_9, 32), rfl, by decide, rfl, by decide +kernel, Or.inl (uw_mem 742 rfl rfl)⟩
set_option maxRecDepth 20000 in
theorem kF_Mod_31 : u_lkF "UnmarkedPagesModel" 31 9 11 (.array .int) := ⟨("UnmarkedPagesModel", uf_T uf_9, 32), rfl, by decide, rfl, by decide +kernel, Or.inl (uw_mem 753 rfl rfl)⟩
set_option maxRecDepth 20000 in
theorem kP_Mod_79 : u_lkP "UnmarkedPagesModel" 79 9 17 (.int) := ⟨("UnmarkedPagesModel", uf_T uf_9, 32), rfl, by decide, rfl, rfl, by decide +kernel, uw_mem 759 rfl rfl⟩
set_option maxRecDepth 20000 in
theorem kF_Mod_82 : u_lkF "UnmarkedPagesModel" 82 9 6 (.int) := ⟨("UnmarkedPagesModel", uf_T uf_9, 32), rfl, by decide, rfl, by decide +kernel, Or.inl (uw_mem 748 rfl rfl)⟩
set_option maxRecDepth 20000 in
theorem kP_Mod_85 : u_lkP "UnmarkedPagesModel" 85 9 18 (.int) := ⟨("UnmarkedPagesModel", uf_T uf_9, 32), rfl, by decide, rfl, rfl, by decide +kernel, uw_mem 760 rfl rfl⟩
set_option maxRecDepth 20000 in
theorem kP_Mod_88 : u_lkP "UnmarkedPagesModel" 88 9 19 (.int) := ⟨("UnmarkedPagesModel", uf_T uf_9, 32), rfl, by decide, rfl, rfl, by decide +kernel, uw_mem 761 rfl rfl⟩
set_option maxRecDepth 20000 in
theorem kF_Mod_34 : u_lkF "UnmarkedPagesModel" 34 9 13 (.array .int) := ⟨("UnmarkedPagesModel", uf_T uf_9, 32), rfl, by decide, rfl, by decide +kernel, Or.inl (uw_mem 755 rfl rfl)⟩
set_option maxRecDepth 20000 in
theorem kF_Mod_91 : u_lkF "UnmarkedPagesModel" 91 9 15 (.int) := ⟨("UnmarkedPagesModel", uf_T uf_9, 32), rfl, by decide, rfl, by decide +kernel, Or.inl (uw_mem 757 rfl rfl)⟩
set_option maxRecDepth 20000 in
theorem kF_Mod_37 : u_lkF "UnmarkedPagesModel" 37 9 14 (.array .int) := ⟨("UnmarkedPagesModel", uf_T uf_9, 32), rfl, by decide, rfl, by decide +kernel, Or.inl (uw_mem 756 rfl rfl)⟩
set_option maxRecDepth 20000 in
theorem kP_Mod_91 : u_lkP "UnmarkedPagesModel" 91 9 15 (.int) := ⟨("UnmarkedPagesModel", uf_T uf_9, 32), rfl, by decide, rfl, rfl, by decide +kernel, uw_mem 757 rfl rfl⟩
set_option maxRecDepth 20000 in
theorem kF_Mod_140 : u_lkF "UnmarkedPagesModel" 140 9 28 (.int) := ⟨("UnmarkedPagesModel", uf_T uf_9, 32), rfl, by decide, rfl, by decide +kernel, Or.inl (uw_mem 770 rfl rfl)⟩
set_option maxRecDepth 20000 in
theorem kP_Mod_82 : u_lkP "UnmarkedPagesModel" 82 9 6 (.int) := ⟨("UnmarkedPagesModel", uf_T uf_9, 32), rfl, by decide, rfl, rfl, by decide +kernel, uw_mem 748 rfl rfl⟩
set_option maxRecDepth 20000 in
theorem kF_Mod_19 : u_lkF "UnmarkedPagesModel" 19 9 5 (.array .int) := ⟨("UnmarkedPagesModel", uf_T uf_9, 32), rfl, by decide, rfl, by decide +kernel, Or.inl (uw_mem 747 rfl rfl)⟩
set_option maxRecDepth 20000 in
theorem kF_Mod_61 : u_lkF "UnmarkedPagesModel" 61 9 29 (.array .char) := ⟨("UnmarkedPagesModel", uf_T uf_9, 32), rfl, by decide, rfl, by decide +kernel, Or.inl (uw_mem 771 rfl rfl)⟩
set_option maxRecDepth 20000 in
theorem kF_Mod_22 : u_lkF "UnmarkedPagesModel" 22 9 7 (.array .int) := ⟨("UnmarkedPagesModel", uf_T uf_9, 32), rfl, by decide, rfl, by decide +kernel, Or.inl (uw_mem 749 rfl rfl)⟩
set_option maxRecDepth 20000 in
theorem kP_Mod_147 : u_lkP "UnmarkedPagesModel" 147 9 25 (.int) := ⟨("UnmarkedPagesModel", uf_T uf_9, 32), rfl, by decide, rfl, rfl, by decide +kernel, uw_mem 767 rfl rfl⟩
set_option maxRecDepth 20000 in
theorem kF_Mod_43 : u_lkF "UnmarkedPagesModel" 43 9 21 (.array .int) := ⟨("UnmarkedPagesModel", uf_T uf_9, 32), rfl, by decide, rfl, by decide +kernel, Or.inl (uw_mem 763 rfl rfl)⟩
set_option maxRecDepth 20000 in
theorem kF_Mod_46 : u_lkF "UnmarkedPagesModel" 46 9 22 (.array .int) := ⟨("UnmarkedPagesModel", uf_T uf_9, 32), rfl, by decide, rfl, by decide +kernel, Or.inl (uw_mem 764 rfl rfl)⟩
set_option maxRecDepth 20000 in
theorem kF_Mod_49 : u_lkF "UnmarkedPagesModel" 49 9 23 (.array .int) := ⟨("UnmarkedPagesModel", uf_T uf_9, 32), rfl, by decide, rfl, by decide +kernel, Or.inl (uw_mem 765 rfl rfl)⟩
set_option maxRecDepth 20000 in
theorem kF_Mod_55 : u_lkF "UnmarkedPagesModel" 55 9 26 (.array .int) := ⟨("UnmarkedPagesModel", uf_T uf_9, 32), rfl, by decide, rfl, by decide +kernel, Or.inl (uw_mem 768 rfl rfl)⟩
set_option maxRecDepth 20000 in
theorem kF_Mod_58 : u_lkF "UnmarkedPagesModel" 58 9 27 (.array .int) := ⟨("UnmarkedPagesModel", uf_T uf_9, 32), rfl, by decide, rfl, by decide +kernel, Or.inl (uw_mem 769 rfl rfl)⟩
set_option maxRecDepth 20000 in
theorem kF_Mod_52 : u_lkF "UnmarkedPagesModel" 52 9 24 (.array .int) := ⟨("UnmarkedPagesModel", uf_T uf_9, 32), rfl, by decide, rfl, by decide +kernel, Or.inl (uw_mem 766 rfl rfl)⟩
set_option maxRecDepth 20000 in
theorem kP_Mod_140 : u_lkP "UnmarkedPagesModel" 140 9 28 (.int) := ⟨("UnmarkedPagesModel", uf_T uf_9, 32), rfl, by decide, rfl, rfl, by decide +kernel, uw_mem 770 rfl rfl⟩
set_option maxRecDepth 20000 in
theorem kF_Mod_16 : u_lkF "UnmarkedPagesModel" 16 9 3 (.array .int) := ⟨("UnmarkedPagesModel", uf_T uf_9, 32), rfl, by decide, rfl, by decide +kernel, Or.inl (uw_mem 745 rfl rfl)⟩
set_option maxRecDepth 20000 in
theorem kP_Mod_206 : u_lkP "UnmarkedPagesModel" 206 9 4 (.boolean) := ⟨("UnmarkedPagesModel", uf_T uf_9, 32), rfl, by decide, rfl, rfl, by decide +kernel, uw_mem 746 rfl rfl⟩
set_option maxRecDepth 20000 in
theorem kQ_Frl_15 : u_lkQ "UnmarkedPages$FrontList" 15 1 0 (.array .long) := ⟨("UnmarkedPages$FrontList", uf_T uf_1, 2), rfl, by decide, rfl, rfl, rfl, by decide +kernel, uw_mem 235 rfl rfl⟩
set_option maxRecDepth 20000 in
theorem kF_Kno_20 : u_lkF "UnmarkedPages$Known" 20 2 1 (.object "UnmarkedPages$FrontList") := ⟨("UnmarkedPages$Known", uf_T uf_2, 4), rfl, by decide, rfl, by decide +kernel, Or.inl (uw_mem 247 rfl rfl)⟩
set_option maxRecDepth 20000 in
theorem kF_Kno_27 : u_lkF "UnmarkedPages$Known" 27 2 2 (.object "UnmarkedPages$Row") := ⟨("UnmarkedPages$Known", uf_T uf_2, 4), rfl, by decide, rfl, by decide +kernel, Or.inl (uw_mem 249 rfl rfl)⟩
set_option maxRecDepth 20000 in
theorem kF_Kno_31 : u_lkF "UnmarkedPages$Known" 31 2 3 (.object "UnmarkedPages$Row") := ⟨("UnmarkedPages$Known", uf_T uf_2, 4), rfl, by decide, rfl, by decide +kernel, Or.inl (uw_mem 250 rfl rfl)⟩
set_option maxRecDepth 20000 in
theorem kF_Pag_14 : u_lkF "UnmarkedPages$Page" 14 3 0 (.object "UnmarkedPages$Row") := ⟨("UnmarkedPages$Page", uf_T uf_3, 8), rfl, by decide, rfl, by decide +kernel, Or.inl (uw_mem 104 rfl rfl)⟩
set_option maxRecDepth 20000 in
theorem kF_Pag_20 : u_lkF "UnmarkedPages$Page" 20 3 1 (.object "UnmarkedPages$Row") := ⟨("UnmarkedPages$Page", uf_T uf_3, 8), rfl, by decide, rfl, by decide +kernel, Or.inl (uw_mem 109 rfl rfl)⟩
set_option maxRecDepth 20000 in
theorem kF_Pag_23 : u_lkF "UnmarkedPages$Page" 23 3 2 (.object "UnmarkedPages$Row") := ⟨("UnmarkedPages$Page", uf_T uf_3, 8), rfl, by decide, rfl, by decide +kernel, Or.inl (uw_mem 113 rfl rfl)⟩
set_option maxRecDepth 20000 in
theorem kF_Pag_26 : u_lkF "UnmarkedPages$Page" 26 3 3 (.object "UnmarkedPages$Row") := ⟨("UnmarkedPages$Page", uf_T uf_3, 8), rfl, by decide, rfl, by decide +kernel, Or.inl (uw_mem 116 rfl rfl)⟩
set_option maxRecDepth 20000 in
theorem kF_Pag_29 : u_lkF "UnmarkedPages$Page" 29 3 4 (.object "UnmarkedPages$Row") := ⟨("UnmarkedPages$Page", uf_T uf_3, 8), rfl, by decide, rfl, by decide +kernel, Or.inl (uw_mem 120 rfl rfl)⟩
set_option maxRecDepth 20000 in
theorem kF_Pag_32 : u_lkF "UnmarkedPages$Page" 32 3 5 (.object "UnmarkedPages$Row") := ⟨("UnmarkedPages$Page", uf_T uf_3, 8), rfl, by decide, rfl, by decide +kernel, Or.inl (uw_mem 123 rfl rfl)⟩
set_option maxRecDepth 20000 in
theorem kF_Pag_35 : u_lkF "UnmarkedPages$Page" 35 3 6 (.object "UnmarkedPages$Row") := ⟨("UnmarkedPages$Page", uf_T uf_3, 8), rfl, by decide, rfl, by decide +kernel, Or.inl (uw_mem 125 rfl rfl)⟩
set_option maxRecDepth 20000 in
theorem kF_Pag_38 : u_lkF "UnmarkedPages$Page" 38 3 7 (.object "UnmarkedPages$Row") := ⟨("UnmarkedPages$Page", uf_T uf_3, 8), rfl, by decide, rfl, by decide +kernel, Or.inl (uw_mem 127 rfl rfl)⟩
set_option maxRecDepth 20000 in
theorem kF_Pth_14 : u_lkF "UnmarkedPages$PathReader" 14 4 0 (.object "UnmarkedPages$Row") := ⟨("UnmarkedPages$PathReader", uf_T uf_4, 3), rfl, by decide, rfl, by decide +kernel, Or.inl (uw_mem 184 rfl rfl)⟩
set_option maxRecDepth 20000 in
theorem kF_Pth_26 : u_lkF "UnmarkedPages$PathReader" 26 4 2 (.int) := ⟨("UnmarkedPages$PathReader", uf_T uf_4, 3), rfl, by decide, rfl, by decide +kernel, Or.inl (uw_mem 186 rfl rfl)⟩
set_option maxRecDepth 20000 in
theorem kF_Pth_20 : u_lkF "UnmarkedPages$PathReader" 20 4 1 (.object "UnmarkedPages$Row") := ⟨("UnmarkedPages$PathReader", uf_T uf_4, 3), rfl, by decide, rfl, by decide +kernel, Or.inl (uw_mem 185 rfl rfl)⟩
set_option maxRecDepth 20000 in
theorem kP_Pth_26 : u_lkP "UnmarkedPages$PathReader" 26 4 2 (.int) := ⟨("UnmarkedPages$PathReader", uf_T uf_4, 3), rfl, by decide, rfl, rfl, by decide +kernel, uw_mem 186 rfl rfl⟩
set_option maxRecDepth 20000 in
theorem kP_Rea_38 : u_lkP "UnmarkedPages$Reader" 38 5 4 (.int) := ⟨("UnmarkedPages$Reader", uf_T uf_5, 7), rfl, by decide, rfl, rfl, by decide +kernel, uw_mem 158 rfl rfl⟩
set_option maxRecDepth 20000 in
theorem kF_Rea_31 : u_lkF "UnmarkedPages$Reader" 31 5 6 (.object "UnmarkedPages$Row") := ⟨("UnmarkedPages$Reader", uf_T uf_5, 7), rfl, by decide, rfl, by decide +kernel, Or.inl (uw_mem 160 rfl rfl)⟩
set_option maxRecDepth 20000 in
theorem kF_Rea_12 : u_lkF "UnmarkedPages$Reader" 12 5 0 (.object "UnmarkedPages$Page") := ⟨("UnmarkedPages$Reader", uf_T uf_5, 7), rfl, by decide, rfl, by decide +kernel, Or.inl (uw_mem 150 rfl rfl)⟩
set_option maxRecDepth 20000 in
theorem kF_Rea_102 : u_lkF "UnmarkedPages$Reader" 102 3 3 (.object "UnmarkedPages$Row") := ⟨("UnmarkedPages$Page", uf_T uf_3, 8), rfl, by decide, rfl, by decide +kernel, Or.inl (uw_mem 119 rfl rfl)⟩
set_option maxRecDepth 20000 in
theorem kF_Rea_27 : u_lkF "UnmarkedPages$Reader" 27 5 5 (.object "UnmarkedPages$Row") := ⟨("UnmarkedPages$Reader", uf_T uf_5, 7), rfl, by decide, rfl, by decide +kernel, Or.inl (uw_mem 159 rfl rfl)⟩
set_option maxRecDepth 20000 in
theorem kF_Rea_133 : u_lkF "UnmarkedPages$Reader" 133 3 1 (.object "UnmarkedPages$Row") := ⟨("UnmarkedPages$Page", uf_T uf_3, 8), rfl, by decide, rfl, by decide +kernel, Or.inl (uw_mem 112 rfl rfl)⟩
set_option maxRecDepth 20000 in
theorem kQ_Row_15 : u_lkQ "UnmarkedPages$Row" 15 6 0 (.array .int) := ⟨("UnmarkedPages$Row", uf_T uf_6, 2), rfl, by decide, rfl, rfl, rfl, by decide +kernel, uw_mem 82 rfl rfl⟩
set_option maxRecDepth 20000 in
theorem kF_Sta_14 : u_lkF "UnmarkedPages$State" 14 7 0 (.object "UnmarkedPages$Row") := ⟨("UnmarkedPages$State", uf_T uf_7, 3), rfl, by decide, rfl, by decide +kernel, Or.inl (uw_mem 209 rfl rfl)⟩
set_option maxRecDepth 20000 in
theorem kF_Sta_59 : u_lkF "UnmarkedPages$State" 59 3 0 (.object "UnmarkedPages$Row") := ⟨("UnmarkedPages$Page", uf_T uf_3, 8), rfl, by decide, rfl, by decide +kernel, Or.inl (uw_mem 107 rfl rfl)⟩
set_option maxRecDepth 20000 in
theorem kF_Sta_66 : u_lkF "UnmarkedPages$State" 66 3 1 (.object "UnmarkedPages$Row") := ⟨("UnmarkedPages$Page", uf_T uf_3, 8), rfl, by decide, rfl, by decide +kernel, Or.inl (uw_mem 111 rfl rfl)⟩
set_option maxRecDepth 20000 in
theorem kF_Ump_14 : u_lkF "UnmarkedPages" 14 8 0 (.object "UnmarkedPages$Row") := ⟨("UnmarkedPages", uf_T uf_8, 12), rfl, by decide, rfl, by decide +kernel, Or.inl (uw_mem 286 rfl rfl)⟩
set_option maxRecDepth 20000 in
theorem kF_Ump_35 : u_lkF "UnmarkedPages" 35 8 3 (.object "UnmarkedPages$State") := ⟨("UnmarkedPages", uf_T uf_8, 12), rfl, by decide, rfl, by decide +kernel, Or.inl (uw_mem 289 rfl rfl)⟩
set_option maxRecDepth 20000 in
theorem kF_Ump_162 : u_lkF "UnmarkedPages" 162 3 0 (.object "UnmarkedPages$Row") := ⟨("UnmarkedPages$Page", uf_T uf_3, 8), rfl, by decide, rfl, by decide +kernel, Or.inl (uw_mem 108 rfl rfl)⟩
set_option maxRecDepth 20000 in
theorem kF_Ump_49 : u_lkF "UnmarkedPages" 49 8 8 (.object "UnmarkedPages$Known") := ⟨("UnmarkedPages", uf_T uf_8, 12), rfl, by decide, rfl, by decide +kernel, Or.inl (uw_mem 294 rfl rfl)⟩
set_option maxRecDepth 20000 in
theorem kQ_Mod_7 : u_lkQ "UnmarkedPagesModel" 7 9 0 (.array .int) := ⟨("UnmarkedPagesModel", uf_T uf_9, 32), rfl, by decide, rfl, rfl, rfl, by decide +kernel, uw_mem 742 rfl rfl⟩
set_option maxRecDepth 20000 in
theorem kQ_Mod_13 : u_lkQ "UnmarkedPagesModel" 13 9 1 (.array .int) := ⟨("UnmarkedPagesModel", uf_T uf_9, 32), rfl, by decide, rfl, rfl, rfl, by decide +kernel, uw_mem 743 rfl rfl⟩
set_option maxRecDepth 20000 in
theorem kQ_Mod_16 : u_lkQ "UnmarkedPagesModel" 16 9 3 (.array .int) := ⟨("UnmarkedPagesModel", uf_T uf_9, 32), rfl, by decide, rfl, rfl, rfl, by decide +kernel, uw_mem 745 rfl rfl⟩
set_option maxRecDepth 20000 in
theorem kQ_Mod_19 : u_lkQ "UnmarkedPagesModel" 19 9 5 (.array .int) := ⟨("UnmarkedPagesModel", uf_T uf_9, 32), rfl, by decide, rfl, rfl, rfl, by decide +kernel, uw_mem 747 rfl rfl⟩
set_option maxRecDepth 20000 in
theorem kQ_Mod_22 : u_lkQ "UnmarkedPagesModel" 22 9 7 (.array .int) := ⟨("UnmarkedPagesModel", uf_T uf_9, 32), rfl, by decide, rfl, rfl, rfl, by decide +kernel, uw_mem 749 rfl rfl⟩
set_option maxRecDepth 20000 in
theorem kQ_Mod_25 : u_lkQ "UnmarkedPagesModel" 25 9 8 (.array .int) := ⟨("UnmarkedPagesModel", uf_T uf_9, 32), rfl, by decide, rfl, rfl, rfl, by decide +kernel, uw_mem 750 rfl rfl⟩
set_option maxRecDepth 20000 in
theorem kQ_Mod_28 : u_lkQ "UnmarkedPagesModel" 28 9 10 (.array .int) := ⟨("UnmarkedPagesModel", uf_T uf_9, 32), rfl, by decide, rfl, rfl, rfl, by decide +kernel, uw_mem 752 rfl rfl⟩
set_option maxRecDepth 20000 in
theorem kQ_Mod_31 : u_lkQ "UnmarkedPagesModel" 31 9 11 (.array .int) := ⟨("UnmarkedPagesModel", uf_T uf_9, 32), rfl, by decide, rfl, rfl, rfl, by decide +kernel, uw_mem 753 rfl rfl⟩
set_option maxRecDepth 20000 in
theorem kQ_Mod_34 : u_lkQ "UnmarkedPagesModel" 34 9 13 (.array .int) := ⟨("UnmarkedPagesModel", uf_T uf_9, 32), rfl, by decide, rfl, rfl, rfl, by decide +kernel, uw_mem 755 rfl rfl⟩
set_option maxRecDepth 20000 in
theorem kQ_Mod_37 : u_lkQ "UnmarkedPagesModel" 37 9 14 (.array .int) := ⟨("UnmarkedPagesModel", uf_T uf_9, 32), rfl, by decide, rfl, rfl, rfl, by decide +kernel, uw_mem 756 rfl rfl⟩
set_option maxRecDepth 20000 in
theorem kQ_Mod_40 : u_lkQ "UnmarkedPagesModel" 40 9 20 (.array .int) := ⟨("UnmarkedPagesModel", uf_T uf_9, 32), rfl, by decide, rfl, rfl, rfl, by decide +kernel, uw_mem 762 rfl rfl⟩
set_option maxRecDepth 20000 in
theorem kQ_Mod_43 : u_lkQ "UnmarkedPagesModel" 43 9 21 (.array .int) := ⟨("UnmarkedPagesModel", uf_T uf_9, 32), rfl, by decide, rfl, rfl, rfl, by decide +kernel, uw_mem 763 rfl rfl⟩
set_option maxRecDepth 20000 in
theorem kQ_Mod_46 : u_lkQ "UnmarkedPagesModel" 46 9 22 (.array .int) := ⟨("UnmarkedPagesModel", uf_T uf_9, 32), rfl, by decide, rfl, rfl, rfl, by decide +kernel, uw_mem 764 rfl rfl⟩
set_option maxRecDepth 20000 in
theorem kQ_Mod_49 : u_lkQ "UnmarkedPagesModel" 49 9 23 (.array .int) := ⟨("UnmarkedPagesModel", uf_T uf_9, 32), rfl, by decide, rfl, rfl, rfl, by decide +kernel, uw_mem 765 rfl rfl⟩
set_option maxRecDepth 20000 in
theorem kQ_Mod_52 : u_lkQ "UnmarkedPagesModel" 52 9 24 (.array .int) := ⟨("UnmarkedPagesModel", uf_T uf_9, 32), rfl, by decide, rfl, rfl, rfl, by decide +kernel, uw_mem 766 rfl rfl⟩
set_option maxRecDepth 20000 in
theorem kQ_Mod_55 : u_lkQ "UnmarkedPagesModel" 55 9 26 (.array .int) := ⟨("UnmarkedPagesModel", uf_T uf_9, 32), rfl, by decide, rfl, rfl, rfl, by decide +kernel, uw_mem 768 rfl rfl⟩
set_option maxRecDepth 20000 in
theorem kQ_Mod_58 : u_lkQ "UnmarkedPagesModel" 58 9 27 (.array .int) := ⟨("UnmarkedPagesModel", uf_T uf_9, 32), rfl, by decide, rfl, rfl, rfl, by decide +kernel, uw_mem 769 rfl rfl⟩
set_option maxRecDepth 20000 in
theorem kQ_Mod_61 : u_lkQ "UnmarkedPagesModel" 61 9 29 (.array .char) := ⟨("UnmarkedPagesModel", uf_T uf_9, 32), rfl, by decide, rfl, rfl, rfl, by decide +kernel, uw_mem 771 rfl rfl⟩
set_option maxRecDepth 20000 in
theorem kQ_Mod_65 : u_lkQ "UnmarkedPagesModel" 65 9 30 (.array .int) := ⟨("UnmarkedPagesModel", uf_T uf_9, 32), rfl, by decide, rfl, rfl, rfl, by decide +kernel, uw_mem 772 rfl rfl⟩
set_option maxRecDepth 20000 in
theorem kQ_Mod_68 : u_lkQ "UnmarkedPagesModel" 68 9 31 (.array .int) := ⟨("UnmarkedPagesModel", uf_T uf_9, 32), rfl, by decide, rfl, rfl, rfl, by decide +kernel, uw_mem 773 rfl rfl⟩
set_option maxRecDepth 20000 in
theorem kF_Mod_94 : u_lkF "UnmarkedPagesModel" 94 9 9 (.int) := ⟨("UnmarkedPagesModel", uf_T uf_9, 32), rfl, by decide, rfl, by decide +kernel, Or.inl (uw_mem 751 rfl rfl)⟩
set_option maxRecDepth 20000 in
theorem kF_Mod_25 : u_lkF "UnmarkedPagesModel" 25 9 8 (.array .int) := ⟨("UnmarkedPagesModel", uf_T uf_9, 32), rfl, by decide, rfl, by decide +kernel, Or.inl (uw_mem 750 rfl rfl)⟩
set_option maxRecDepth 20000 in
theorem kP_Mod_94 : u_lkP "UnmarkedPagesModel" 94 9 9 (.int) := ⟨("UnmarkedPagesModel", uf_T uf_9, 32), rfl, by decide, rfl, rfl, by decide +kernel, uw_mem 751 rfl rfl⟩
set_option maxRecDepth 20000 in
theorem kF_Mod_104 : u_lkF "UnmarkedPagesModel" 104 9 16 (.int) := ⟨("UnmarkedPagesModel", uf_T uf_9, 32), rfl, by decide, rfl, by decide +kernel, Or.inl (uw_mem 758 rfl rfl)⟩
set_option maxRecDepth 20000 in
theorem kP_Mod_104 : u_lkP "UnmarkedPagesModel" 104 9 16 (.int) := ⟨("UnmarkedPagesModel", uf_T uf_9, 32), rfl, by decide, rfl, rfl, by decide +kernel, uw_mem 758 rfl rfl⟩
set_option maxRecDepth 20000 in
theorem kF_Mod_40 : u_lkF "UnmarkedPagesModel" 40 9 20 (.array .int) := ⟨("UnmarkedPagesModel", uf_T uf_9, 32), rfl, by decide, rfl, by decide +kernel, Or.inl (uw_mem 762 rfl rfl)⟩
set_option maxRecDepth 20000 in
theorem kF_Mod_147 : u_lkF "UnmarkedPagesModel" 147 9 25 (.int) := ⟨("UnmarkedPagesModel", uf_T uf_9, 32), rfl, by decide, rfl, by decide +kernel, Or.inl (uw_mem 767 rfl rfl)⟩
set_option maxRecDepth 20000 in
theorem kF_Mod_206 : u_lkF "UnmarkedPagesModel" 206 9 4 (.boolean) := ⟨("UnmarkedPagesModel", uf_T uf_9, 32), rfl, by decide, rfl, by decide +kernel, Or.inl (uw_mem 746 rfl rfl)⟩
set_option maxRecDepth 20000 in
theorem kF_Mod_65 : u_lkF "UnmarkedPagesModel" 65 9 30 (.array .int) := ⟨("UnmarkedPagesModel", uf_T uf_9, 32), rfl, by decide, rfl, by decide +kernel, Or.inl (uw_mem 772 rfl rfl)⟩
set_option maxRecDepth 20000 in
theorem kF_Mod_68 : u_lkF "UnmarkedPagesModel" 68 9 31 (.array .int) := ⟨("UnmarkedPagesModel", uf_T uf_9, 32), rfl, by decide, rfl, by decide +kernel, Or.inl (uw_mem 773 rfl rfl)⟩
set_option maxRecDepth 20000 in
theorem kF_Mod_124 : u_lkF "UnmarkedPagesModel" 124 9 12 (.int) := ⟨("UnmarkedPagesModel", uf_T uf_9, 32), rfl, by decide, rfl, by decide +kernel, Or.inl (uw_mem 754 rfl rfl)⟩
set_option maxRecDepth 20000 in
theorem kQ_Cod_14 : u_lkQ "UnmarkedPages$Codes" 14 0 0 (.object "UnmarkedPages$Row") := ⟨("UnmarkedPages$Codes", uf_T uf_0, 4), rfl, by decide, rfl, rfl, rfl, by decide +kernel, uw_mem 269 rfl rfl⟩
set_option maxRecDepth 20000 in
theorem kQ_Cod_20 : u_lkQ "UnmarkedPages$Codes" 20 0 1 (.object "UnmarkedPages$Row") := ⟨("UnmarkedPages$Codes", uf_T uf_0, 4), rfl, by decide, rfl, rfl, rfl, by decide +kernel, uw_mem 271 rfl rfl⟩
set_option maxRecDepth 20000 in
theorem kQ_Cod_23 : u_lkQ "UnmarkedPages$Codes" 23 0 2 (.object "UnmarkedPages$Row") := ⟨("UnmarkedPages$Codes", uf_T uf_0, 4), rfl, by decide, rfl, rfl, rfl, by decide +kernel, uw_mem 273 rfl rfl⟩
set_option maxRecDepth 20000 in
theorem kQ_Cod_26 : u_lkQ "UnmarkedPages$Codes" 26 0 3 (.object "UnmarkedPages$Row") := ⟨("UnmarkedPages$Codes", uf_T uf_0, 4), rfl, by decide, rfl, rfl, rfl, by decide +kernel, uw_mem 275 rfl rfl⟩
set_option maxRecDepth 20000 in
theorem kQ_Kno_11 : u_lkQ "UnmarkedPages$Known" 11 2 0 (.array (.object "UnmarkedPages$FrontList")) := ⟨("UnmarkedPages$Known", uf_T uf_2, 4), rfl, by decide, rfl, rfl, rfl, by decide +kernel, uw_mem 246 rfl rfl⟩
set_option maxRecDepth 20000 in
theorem kQ_Kno_20 : u_lkQ "UnmarkedPages$Known" 20 2 1 (.object "UnmarkedPages$FrontList") := ⟨("UnmarkedPages$Known", uf_T uf_2, 4), rfl, by decide, rfl, rfl, rfl, by decide +kernel, uw_mem 247 rfl rfl⟩
set_option maxRecDepth 20000 in
theorem kQ_Kno_27 : u_lkQ "UnmarkedPages$Known" 27 2 2 (.object "UnmarkedPages$Row") := ⟨("UnmarkedPages$Known", uf_T uf_2, 4), rfl, by decide, rfl, rfl, rfl, by decide +kernel, uw_mem 249 rfl rfl⟩
set_option maxRecDepth 20000 in
theorem kQ_Kno_31 : u_lkQ "UnmarkedPages$Known" 31 2 3 (.object "UnmarkedPages$Row") := ⟨("UnmarkedPages$Known", uf_T uf_2, 4), rfl, by decide, rfl, rfl, rfl, by decide +kernel, uw_mem 250 rfl rfl⟩
set_option maxRecDepth 20000 in
theorem kF_Kno_84 : u_lkF "UnmarkedPages$Known" 84 3 4 (.object "UnmarkedPages$Row") := ⟨("UnmarkedPages$Page", uf_T uf_3, 8), rfl, by decide, rfl, by decide +kernel, Or.inl (uw_mem 121 rfl rfl)⟩
set_option maxRecDepth 20000 in
theorem kF_Kno_57 : u_lkF "UnmarkedPages$Known" 57 3 3 (.object "UnmarkedPages$Row") := ⟨("UnmarkedPages$Page", uf_T uf_3, 8), rfl, by decide, rfl, by decide +kernel, Or.inl (uw_mem 118 rfl rfl)⟩
set_option maxRecDepth 20000 in
theorem kF_Kno_76 : u_lkF "UnmarkedPages$Known" 76 3 6 (.object "UnmarkedPages$Row") := ⟨("UnmarkedPages$Page", uf_T uf_3, 8), rfl, by decide, rfl, by decide +kernel, Or.inl (uw_mem 126 rfl rfl)⟩
set_option maxRecDepth 20000 in
theorem kF_Kno_134 : u_lkF "UnmarkedPages$Known" 134 3 7 (.object "UnmarkedPages$Row") := ⟨("UnmarkedPages$Page", uf_T uf_3, 8), rfl, by decide, rfl, by decide +kernel, Or.inl (uw_mem 128 rfl rfl)⟩
set_option maxRecDepth 20000 in
theorem kF_Kno_139 : u_lkF "UnmarkedPages$Known" 139 3 0 (.object "UnmarkedPages$Row") := ⟨("UnmarkedPages$Page", uf_T uf_3, 8), rfl, by decide, rfl, by decide +kernel, Or.inl (uw_mem 106 rfl rfl)⟩
set_option maxRecDepth 20000 in
theorem kQ_Pag_14 : u_lkQ "UnmarkedPages$Page" 14 3 0 (.object "UnmarkedPages$Row") := ⟨("UnmarkedPages$Page", uf_T uf_3, 8), rfl, by decide, rfl, rfl, rfl, by decide +kernel, uw_mem 104 rfl rfl⟩
set_option maxRecDepth 20000 in
theorem kQ_Pag_20 : u_lkQ "UnmarkedPages$Page" 20 3 1 (.object "UnmarkedPages$Row") := ⟨("UnmarkedPages$Page", uf_T uf_3, 8), rfl, by decide, rfl, rfl, rfl, by decide +kernel, uw_mem 109 rfl rfl⟩
set_option maxRecDepth 20000 in
theorem kQ_Pag_23 : u_lkQ "UnmarkedPages$Page" 23 3 2 (.object "UnmarkedPages$Row") := ⟨("UnmarkedPages$Page", uf_T uf_3, 8), rfl, by decide, rfl, rfl, rfl, by decide +kernel, uw_mem 113 rfl rfl⟩
set_option maxRecDepth 20000 in
theorem kQ_Pag_26 : u_lkQ "UnmarkedPages$Page" 26 3 3 (.object "UnmarkedPages$Row") := ⟨("UnmarkedPages$Page", uf_T uf_3, 8), rfl, by decide, rfl, rfl, rfl, by decide +kernel, uw_mem 116 rfl rfl⟩
set_option maxRecDepth 20000 in
theorem kQ_Pag_29 : u_lkQ "UnmarkedPages$Page" 29 3 4 (.object "UnmarkedPages$Row") := ⟨("UnmarkedPages$Page", uf_T uf_3, 8), rfl, by decide, rfl, rfl, rfl, by decide +kernel, uw_mem 120 rfl rfl⟩
set_option maxRecDepth 20000 in
theorem kQ_Pag_32 : u_lkQ "UnmarkedPages$Page" 32 3 5 (.object "UnmarkedPages$Row") := ⟨("UnmarkedPages$Page", uf_T uf_3, 8), rfl, by decide, rfl, rfl, rfl, by decide +kernel, uw_mem 123 rfl rfl⟩
set_option maxRecDepth 20000 in
theorem kQ_Pag_35 : u_lkQ "UnmarkedPages$Page" 35 3 6 (.object "UnmarkedPages$Row") := ⟨("UnmarkedPages$Page", uf_T uf_3, 8), rfl, by decide, rfl, rfl, rfl, by decide +kernel, uw_mem 125 rfl rfl⟩
set_option maxRecDepth 20000 in
theorem kQ_Pag_38 : u_lkQ "UnmarkedPages$Page" 38 3 7 (.object "UnmarkedPages$Row") := ⟨("UnmarkedPages$Page", uf_T uf_3, 8), rfl, by decide, rfl, rfl, rfl, by decide +kernel, uw_mem 127 rfl rfl⟩
set_option maxRecDepth 20000 in
theorem kQ_Pth_14 : u_lkQ "UnmarkedPages$PathReader" 14 4 0 (.object "UnmarkedPages$Row") := ⟨("UnmarkedPages$PathReader", uf_T uf_4, 3), rfl, by decide, rfl, rfl, rfl, by decide +kernel, uw_mem 184 rfl rfl⟩
set_option maxRecDepth 20000 in
theorem kQ_Pth_20 : u_lkQ "UnmarkedPages$PathReader" 20 4 1 (.object "UnmarkedPages$Row") := ⟨("UnmarkedPages$PathReader", uf_T uf_4, 3), rfl, by decide, rfl, rfl, rfl, by decide +kernel, uw_mem 185 rfl rfl⟩
set_option maxRecDepth 20000 in
theorem kF_Pth_42 : u_lkF "UnmarkedPages$PathReader" 42 3 3 (.object "UnmarkedPages$Row") := ⟨("UnmarkedPages$Page", uf_T uf_3, 8), rfl, by decide, rfl, by decide +kernel, Or.inl (uw_mem 117 rfl rfl)⟩
set_option maxRecDepth 20000 in
theorem kF_Rea_38 : u_lkF "UnmarkedPages$Reader" 38 5 4 (.int) := ⟨("UnmarkedPages$Reader", uf_T uf_5, 7), rfl, by decide, rfl, by decide +kernel, Or.inl (uw_mem 158 rfl rfl)⟩
set_option maxRecDepth 20000 in
theorem kF_Rea_120 : u_lkF "UnmarkedPages$Reader" 120 3 7 (.object "UnmarkedPages$Row") := ⟨("UnmarkedPages$Page", uf_T uf_3, 8), rfl, by decide, rfl, by decide +kernel, Or.inl (uw_mem 129 rfl rfl)⟩
set_option maxRecDepth 20000 in
theorem kF_Mod_28 : u_lkF "UnmarkedPagesModel" 28 9 10 (.array .int) := ⟨("UnmarkedPagesModel", uf_T uf_9, 32), rfl, by decide, rfl, by decide +kernel, Or.inl (uw_mem 752 rfl rfl)⟩
set_option maxRecDepth 20000 in
theorem kQ_Rea_12 : u_lkQ "UnmarkedPages$Reader" 12 5 0 (.object "UnmarkedPages$Page") := ⟨("UnmarkedPages$Reader", uf_T uf_5, 7), rfl, by decide, rfl, rfl, rfl, by decide +kernel, uw_mem 150 rfl rfl⟩
set_option maxRecDepth 20000 in
theorem kQ_Rea_27 : u_lkQ "UnmarkedPages$Reader" 27 5 5 (.object "UnmarkedPages$Row") := ⟨("UnmarkedPages$Reader", uf_T uf_5, 7), rfl, by decide, rfl, rfl, rfl, by decide +kernel, uw_mem 159 rfl rfl⟩
set_option maxRecDepth 20000 in
theorem kQ_Rea_31 : u_lkQ "UnmarkedPages$Reader" 31 5 6 (.object "UnmarkedPages$Row") := ⟨("UnmarkedPages$Reader", uf_T uf_5, 7), rfl, by decide, rfl, rfl, rfl, by decide +kernel, uw_mem 160 rfl rfl⟩
set_option maxRecDepth 20000 in
theorem kF_Rea_130 : u_lkF "UnmarkedPages$Reader" 130 3 2 (.object "UnmarkedPages$Row") := ⟨("UnmarkedPages$Page", uf_T uf_3, 8), rfl, by decide, rfl, by decide +kernel, Or.inl (uw_mem 114 rfl rfl)⟩
set_option maxRecDepth 20000 in
theorem kQ_Sta_14 : u_lkQ "UnmarkedPages$State" 14 7 0 (.object "UnmarkedPages$Row") := ⟨("UnmarkedPages$State", uf_T uf_7, 3), rfl, by decide, rfl, rfl, rfl, by decide +kernel, uw_mem 209 rfl rfl⟩
set_option maxRecDepth 20000 in
theorem kQ_Sta_22 : u_lkQ "UnmarkedPages$State" 22 7 1 (.array (.object "UnmarkedPages$Page")) := ⟨("UnmarkedPages$State", uf_T uf_7, 3), rfl, by decide, rfl, rfl, rfl, by decide +kernel, uw_mem 210 rfl rfl⟩
set_option maxRecDepth 20000 in
theorem kP_Sta_34 : u_lkP "UnmarkedPages$State" 34 7 2 (.int) := ⟨("UnmarkedPages$State", uf_T uf_7, 3), rfl, by decide, rfl, rfl, by decide +kernel, uw_mem 211 rfl rfl⟩
set_option maxRecDepth 20000 in
theorem kF_Ump_217 : u_lkF "UnmarkedPages" 217 3 2 (.object "UnmarkedPages$Row") := ⟨("UnmarkedPages$Page", uf_T uf_3, 8), rfl, by decide, rfl, by decide +kernel, Or.inl (uw_mem 115 rfl rfl)⟩
set_option maxRecDepth 20000 in
theorem kF_Ump_220 : u_lkF "UnmarkedPages" 220 3 5 (.object "UnmarkedPages$Row") := ⟨("UnmarkedPages$Page", uf_T uf_3, 8), rfl, by decide, rfl, by decide +kernel, Or.inl (uw_mem 124 rfl rfl)⟩
set_option maxRecDepth 20000 in
theorem kF_Ump_226 : u_lkF "UnmarkedPages" 226 3 4 (.object "UnmarkedPages$Row") := ⟨("UnmarkedPages$Page", uf_T uf_3, 8), rfl, by decide, rfl, by decide +kernel, Or.inl (uw_mem 122 rfl rfl)⟩
set_option maxRecDepth 20000 in
theorem kF_Ump_235 : u_lkF "UnmarkedPages" 235 3 7 (.object "UnmarkedPages$Row") := ⟨("UnmarkedPages$Page", uf_T uf_3, 8), rfl, by decide, rfl, by decide +kernel, Or.inl (uw_mem 130 rfl rfl)⟩
set_option maxRecDepth 20000 in
theorem kF_Ump_28 : u_lkF "UnmarkedPages" 28 8 2 (.object "UnmarkedPages$PathReader") := ⟨("UnmarkedPages", uf_T uf_8, 12), rfl, by decide, rfl, by decide +kernel, Or.inl (uw_mem 288 rfl rfl)⟩
set_option maxRecDepth 20000 in
theorem kF_Ump_98 : u_lkF "UnmarkedPages" 98 7 2 (.int) := ⟨("UnmarkedPages$State", uf_T uf_7, 3), rfl, by decide, rfl, by decide +kernel, Or.inl (uw_mem 212 rfl rfl)⟩
set_option maxRecDepth 20000 in
theorem kP_Mod_124 : u_lkP "UnmarkedPagesModel" 124 9 12 (.int) := ⟨("UnmarkedPagesModel", uf_T uf_9, 32), rfl, by decide, rfl, rfl, by decide +kernel, uw_mem 754 rfl rfl⟩
set_option maxRecDepth 20000 in
theorem kF_Kno_47 : u_lkF "UnmarkedPages$Known" 47 0 0 (.object "UnmarkedPages$Row") := ⟨("UnmarkedPages$Codes", uf_T uf_0, 4), rfl, by decide, rfl, by decide +kernel, Or.inr ⟨"UnmarkedPages", by decide +kernel⟩⟩
set_option maxRecDepth 20000 in
theorem kF_Kno_50 : u_lkF "UnmarkedPages$Known" 50 3 1 (.object "UnmarkedPages$Row") := ⟨("UnmarkedPages$Page", uf_T uf_3, 8), rfl, by decide, rfl, by decide +kernel, Or.inl (uw_mem 110 rfl rfl)⟩
set_option maxRecDepth 20000 in
theorem kF_Kno_64 : u_lkF "UnmarkedPages$Known" 64 0 1 (.object "UnmarkedPages$Row") := ⟨("UnmarkedPages$Codes", uf_T uf_0, 4), rfl, by decide, rfl, by decide +kernel, Or.inr ⟨"UnmarkedPages", by decide +kernel⟩⟩
set_option maxRecDepth 20000 in
theorem kF_Kno_70 : u_lkF "UnmarkedPages$Known" 70 0 2 (.object "UnmarkedPages$Row") := ⟨("UnmarkedPages$Codes", uf_T uf_0, 4), rfl, by decide, rfl, by decide +kernel, Or.inr ⟨"UnmarkedPages", by decide +kernel⟩⟩
set_option maxRecDepth 20000 in
theorem kF_Kno_79 : u_lkF "UnmarkedPages$Known" 79 0 3 (.object "UnmarkedPages$Row") := ⟨("UnmarkedPages$Codes", uf_T uf_0, 4), rfl, by decide, rfl, by decide +kernel, Or.inr ⟨"UnmarkedPages", by decide +kernel⟩⟩
set_option maxRecDepth 20000 in
theorem kQ_Ump_14 : u_lkQ "UnmarkedPages" 14 8 0 (.object "UnmarkedPages$Row") := ⟨("UnmarkedPages", uf_T uf_8, 12), rfl, by decide, rfl, rfl, rfl, by decide +kernel, uw_mem 286 rfl rfl⟩
set_option maxRecDepth 20000 in
theorem kQ_Ump_21 : u_lkQ "UnmarkedPages" 21 8 1 (.object "UnmarkedPages$Reader") := ⟨("UnmarkedPages", uf_T uf_8, 12), rfl, by decide, rfl, rfl, rfl, by decide +kernel, uw_mem 287 rfl rfl⟩
set_option maxRecDepth 20000 in
theorem kQ_Ump_28 : u_lkQ "UnmarkedPages" 28 8 2 (.object "UnmarkedPages$PathReader") := ⟨("UnmarkedPages", uf_T uf_8, 12), rfl, by decide, rfl, rfl, rfl, by decide +kernel, uw_mem 288 rfl rfl⟩
set_option maxRecDepth 20000 in
theorem kQ_Ump_35 : u_lkQ "UnmarkedPages" 35 8 3 (.object "UnmarkedPages$State") := ⟨("UnmarkedPages", uf_T uf_8, 12), rfl, by decide, rfl, rfl, rfl, by decide +kernel, uw_mem 289 rfl rfl⟩
set_option maxRecDepth 20000 in
theorem kQ_Ump_39 : u_lkQ "UnmarkedPages" 39 8 4 (.array (.object "UnmarkedPages$State")) := ⟨("UnmarkedPages", uf_T uf_8, 12), rfl, by decide, rfl, rfl, rfl, by decide +kernel, uw_mem 290 rfl rfl⟩
set_option maxRecDepth 20000 in
theorem kQ_Ump_43 : u_lkQ "UnmarkedPages" 43 8 6 (.object "UnmarkedPages$State") := ⟨("UnmarkedPages", uf_T uf_8, 12), rfl, by decide, rfl, rfl, rfl, by decide +kernel, uw_mem 292 rfl rfl⟩
set_option maxRecDepth 20000 in
theorem kQ_Ump_49 : u_lkQ "UnmarkedPages" 49 8 8 (.object "UnmarkedPages$Known") := ⟨("UnmarkedPages", uf_T uf_8, 12), rfl, by decide, rfl, rfl, rfl, by decide +kernel, uw_mem 294 rfl rfl⟩
set_option maxRecDepth 20000 in
theorem kQ_Ump_55 : u_lkQ "UnmarkedPages" 55 8 9 (.array (.object "UnmarkedPages$Codes")) := ⟨("UnmarkedPages", uf_T uf_8, 12), rfl, by decide, rfl, rfl, rfl, by decide +kernel, uw_mem 295 rfl rfl⟩
set_option maxRecDepth 20000 in
theorem kQ_Ump_59 : u_lkQ "UnmarkedPages" 59 8 10 (.object "UnmarkedPages$Known") := ⟨("UnmarkedPages", uf_T uf_8, 12), rfl, by decide, rfl, rfl, rfl, by decide +kernel, uw_mem 296 rfl rfl⟩
set_option maxRecDepth 20000 in
theorem kQ_Ump_63 : u_lkQ "UnmarkedPages" 63 8 11 (.object "UnmarkedPages$Codes") := ⟨("UnmarkedPages", uf_T uf_8, 12), rfl, by decide, rfl, rfl, rfl, by decide +kernel, uw_mem 297 rfl rfl⟩
set_option maxRecDepth 20000 in
theorem kF_Ump_39 : u_lkF "UnmarkedPages" 39 8 4 (.array (.object "UnmarkedPages$State")) := ⟨("UnmarkedPages", uf_T uf_8, 12), rfl, by decide, rfl, by decide +kernel, Or.inl (uw_mem 290 rfl rfl)⟩
set_option maxRecDepth 20000 in
theorem kF_Ump_210 : u_lkF "UnmarkedPages" 210 2 1 (.object "UnmarkedPages$FrontList") := ⟨("UnmarkedPages$Known", uf_T uf_2, 4), rfl, by decide, rfl, by decide +kernel, Or.inl (uw_mem 248 rfl rfl)⟩
set_option maxRecDepth 20000 in
theorem kF_Ump_147 : u_lkF "UnmarkedPages" 147 8 5 (.int) := ⟨("UnmarkedPages", uf_T uf_8, 12), rfl, by decide, rfl, by decide +kernel, Or.inl (uw_mem 291 rfl rfl)⟩
set_option maxRecDepth 20000 in
theorem kF_Rea_45 : u_lkF "UnmarkedPages$Reader" 45 3 0 (.object "UnmarkedPages$Row") := ⟨("UnmarkedPages$Page", uf_T uf_3, 8), rfl, by decide, rfl, by decide +kernel, Or.inl (uw_mem 105 rfl rfl)⟩
set_option maxRecDepth 20000 in
theorem kF_Ump_43 : u_lkF "UnmarkedPages" 43 8 6 (.object "UnmarkedPages$State") := ⟨("UnmarkedPages", uf_T uf_8, 12), rfl, by decide, rfl, by decide +kernel, Or.inl (uw_mem 292 rfl rfl)⟩
set_option maxRecDepth 20000 in
theorem kP_Ump_154 : u_lkP "UnmarkedPages" 154 8 7 (.boolean) := ⟨("UnmarkedPages", uf_T uf_8, 12), rfl, by decide, rfl, rfl, by decide +kernel, uw_mem 293 rfl rfl⟩
set_option maxRecDepth 20000 in
theorem kP_Ump_147 : u_lkP "UnmarkedPages" 147 8 5 (.int) := ⟨("UnmarkedPages", uf_T uf_8, 12), rfl, by decide, rfl, rfl, by decide +kernel, uw_mem 291 rfl rfl⟩
set_option maxRecDepth 20000 in
theorem kF_Mod_79 : u_lkF "UnmarkedPagesModel" 79 9 17 (.int) := ⟨("UnmarkedPagesModel", uf_T uf_9, 32), rfl, by decide, rfl, by decide +kernel, Or.inl (uw_mem 759 rfl rfl)⟩
set_option maxRecDepth 20000 in
theorem kF_Mod_85 : u_lkF "UnmarkedPagesModel" 85 9 18 (.int) := ⟨("UnmarkedPagesModel", uf_T uf_9, 32), rfl, by decide, rfl, by decide +kernel, Or.inl (uw_mem 760 rfl rfl)⟩
set_option maxRecDepth 20000 in
theorem kF_Mod_88 : u_lkF "UnmarkedPagesModel" 88 9 19 (.int) := ⟨("UnmarkedPagesModel", uf_T uf_9, 32), rfl, by decide, rfl, by decide +kernel, Or.inl (uw_mem 761 rfl rfl)⟩
set_option maxRecDepth 20000 in
theorem kF_Ump_21 : u_lkF "UnmarkedPages" 21 8 1 (.object "UnmarkedPages$Reader") := ⟨("UnmarkedPages", uf_T uf_8, 12), rfl, by decide, rfl, by decide +kernel, Or.inl (uw_mem 287 rfl rfl)⟩
set_option maxRecDepth 20000 in
theorem kF_Ump_94 : u_lkF "UnmarkedPages" 94 5 1 (.int) := ⟨("UnmarkedPages$Reader", uf_T uf_5, 7), rfl, by decide, rfl, by decide +kernel, Or.inl (uw_mem 152 rfl rfl)⟩
set_option maxRecDepth 20000 in
theorem kF_Ump_105 : u_lkF "UnmarkedPages" 105 5 0 (.object "UnmarkedPages$Page") := ⟨("UnmarkedPages$Reader", uf_T uf_5, 7), rfl, by decide, rfl, by decide +kernel, Or.inl (uw_mem 151 rfl rfl)⟩
set_option maxRecDepth 20000 in
theorem kP_Ump_98 : u_lkP "UnmarkedPages" 98 7 2 (.int) := ⟨("UnmarkedPages$State", uf_T uf_7, 3), rfl, by decide, rfl, rfl, by decide +kernel, uw_mem 212 rfl rfl⟩
set_option maxRecDepth 20000 in
theorem kF_Ump_141 : u_lkF "UnmarkedPages" 141 5 2 (.int) := ⟨("UnmarkedPages$Reader", uf_T uf_5, 7), rfl, by decide, rfl, by decide +kernel, Or.inl (uw_mem 155 rfl rfl)⟩
set_option maxRecDepth 20000 in
theorem kF_Ump_144 : u_lkF "UnmarkedPages" 144 5 3 (.int) := ⟨("UnmarkedPages$Reader", uf_T uf_5, 7), rfl, by decide, rfl, by decide +kernel, Or.inl (uw_mem 156 rfl rfl)⟩
set_option maxRecDepth 20000 in
theorem kF_Ump_154 : u_lkF "UnmarkedPages" 154 8 7 (.boolean) := ⟨("UnmarkedPages", uf_T uf_8, 12), rfl, by decide, rfl, by decide +kernel, Or.inl (uw_mem 293 rfl rfl)⟩
set_option maxRecDepth 20000 in
theorem kF_Ump_59 : u_lkF "UnmarkedPages" 59 8 10 (.object "UnmarkedPages$Known") := ⟨("UnmarkedPages", uf_T uf_8, 12), rfl, by decide, rfl, by decide +kernel, Or.inl (uw_mem 296 rfl rfl)⟩
/-! what links: methods -/
def u_CV (own : String) (idx ci : Nat) (M : uM) (n : Nat) : Prop := u_MO M n ∧ Cond.methodLink own idx M.y ∈ uw_W ∧ Cond.instanceMethod M.y ∈ uw_W ∧ Cond.selects M.y.cls M.y M.y ∈ uw_W ∧ ∃ r : vw_C, u_cls[ci]? = some r ∧ r.1 = M.y.cls
def u_CS (own : String) (idx : Nat) (M : uM) (n : Nat) : Prop := u_MO M n ∧ (Cond.methodLink own idx M.y ∈ uw_W ∨ ∃ host, (own, idx, M.y, host) ∈ u_nestM) ∧ Cond.static M.y ∈ uw_W
def u_CI (own : String) (idx : Nat) (M : uM) (n : Nat) : Prop := u_MO M n ∧ (Cond.methodLink own idx M.y ∈ uw_W ∨ ∃ host, (own, idx, M.y, host) ∈ u_nestM) ∧ Cond.instanceMethod M.y ∈ uw_W ∧ M.ret = none ∧ M.y.name = "<init>"
set_option maxRecDepth 20000 in
theorem mo_Cod_rowAt : u_MO mCod_rowAt 1 := ⟨by decide, rfl, by decide, by decide, ⟨by decide, by decide⟩, by decide +kernel, uw_mem 584 rfl rfl, uw_mem 62 rfl rfl⟩
set_option maxRecDepth 20000 in
theorem mo_Cod_bitsOfCode : u_MO mCod_bitsOfCode 1 := ⟨by decide, rfl, by decide, by decide, ⟨by decide, by decide⟩, by decide +kernel, uw_mem 588 rfl rfl, uw_mem 62 rfl rfl⟩
set_option maxRecDepth 20000 in
theorem mo_Frl_size : u_MO mFrl_size 0 := ⟨by decide, rfl, by decide, by decide, ⟨by decide, by decide⟩, by decide +kernel, uw_mem 522 rfl rfl, uw_mem 61 rfl rfl⟩
set_option maxRecDepth 20000 in
theorem mo_Frl_clear : u_MO mFrl_clear 0 := ⟨by decide, rfl, by decide, by decide, ⟨by decide, by decide⟩, by decide +kernel, uw_mem 604 rfl rfl, uw_mem 61 rfl rfl⟩
set_option maxRecDepth 20000 in
theorem mo_Frl_at : u_MO mFrl_at 1 := ⟨by decide, rfl, by decide, by decide, ⟨by decide, by decide⟩, by decide +kernel, uw_mem 717 rfl rfl, uw_mem 61 rfl rfl⟩
set_option maxRecDepth 20000 in
theorem mo_Frl_placeOf : u_MO mFrl_placeOf 1 := ⟨by decide, rfl, by decide, by decide, ⟨by decide, by decide⟩, by decide +kernel, uw_mem 518 rfl rfl, uw_mem 61 rfl rfl⟩
set_option maxRecDepth 20000 in
theorem mo_Kno_namesIn : u_MO mKno_namesIn 1 := ⟨by decide, rfl, by decide, by decide, ⟨by decide, by decide⟩, by decide +kernel, uw_mem 514 rfl rfl, uw_mem 60 rfl rfl⟩
set_option maxRecDepth 20000 in
theorem mo_Rea_hasFault : u_MO mRea_hasFault 0 := ⟨by decide, rfl, by decide, by decide, ⟨by decide, by decide⟩, by decide +kernel, uw_mem 489 rfl rfl, uw_mem 56 rfl rfl⟩
set_option maxRecDepth 20000 in
theorem mo_Rea_tell : u_MO mRea_tell 3 := ⟨by decide, rfl, by decide, by decide, ⟨by decide, by decide⟩, by decide +kernel, uw_mem 419 rfl rfl, uw_mem 56 rfl rfl⟩
set_option maxRecDepth 20000 in
theorem mo_Row_size : u_MO mRow_size 0 := ⟨by decide, rfl, by decide, by decide, ⟨by decide, by decide⟩, by decide +kernel, uw_mem 402 rfl rfl, uw_mem 54 rfl rfl⟩
set_option maxRecDepth 20000 in
theorem mo_Row_clear : u_MO mRow_clear 0 := ⟨by decide, rfl, by decide, by decide, ⟨by decide, by decide⟩, by decide +kernel, uw_mem 397 rfl rfl, uw_mem 54 rfl rfl⟩
set_option maxRecDepth 20000 in
theorem mo_Row_at : u_MO mRow_at 1 := ⟨by decide, rfl, by decide, by decide, ⟨by decide, by decide⟩, by decide +kernel, uw_mem 337 rfl rfl, uw_mem 54 rfl rfl⟩
set_option maxRecDepth 20000 in
theorem mo_Row_add : u_MO mRow_add 1 := ⟨by decide, rfl, by decide, by decide, ⟨by decide, by decide⟩, by decide +kernel, uw_mem 407 rfl rfl, uw_mem 54 rfl rfl⟩
set_option maxRecDepth 20000 in
theorem mo_Row_put : u_MO mRow_put 2 := ⟨by decide, rfl, by decide, by decide, ⟨by decide, by decide⟩, by decide +kernel, uw_mem 373 rfl rfl, uw_mem 54 rfl rfl⟩
set_option maxRecDepth 20000 in
theorem mo_Row_fill : u_MO mRow_fill 1 := ⟨by decide, rfl, by decide, by decide, ⟨by decide, by decide⟩, by decide +kernel, uw_mem 207 rfl rfl, uw_mem 54 rfl rfl⟩
set_option maxRecDepth 20000 in
theorem mo_Row_last : u_MO mRow_last 0 := ⟨by decide, rfl, by decide, by decide, ⟨by decide, by decide⟩, by decide +kernel, uw_mem 438 rfl rfl, uw_mem 54 rfl rfl⟩
set_option maxRecDepth 20000 in
theorem mo_Row_removeLast : u_MO mRow_removeLast 0 := ⟨by decide, rfl, by decide, by decide, ⟨by decide, by decide⟩, by decide +kernel, uw_mem 447 rfl rfl, uw_mem 54 rfl rfl⟩
set_option maxRecDepth 20000 in
theorem mo_Row_placeOf : u_MO mRow_placeOf 1 := ⟨by decide, rfl, by decide, by decide, ⟨by decide, by decide⟩, by decide +kernel, uw_mem 703 rfl rfl, uw_mem 54 rfl rfl⟩
set_option maxRecDepth 20000 in
theorem mo_Row_countOf : u_MO mRow_countOf 1 := ⟨by decide, rfl, by decide, by decide, ⟨by decide, by decide⟩, by decide +kernel, uw_mem 381 rfl rfl, uw_mem 54 rfl rfl⟩
set_option maxRecDepth 20000 in
theorem mo_Sta_hasPage : u_MO mSta_hasPage 1 := ⟨by decide, rfl, by decide, by decide, ⟨by decide, by decide⟩, by decide +kernel, uw_mem 613 rfl rfl, uw_mem 59 rfl rfl⟩
set_option maxRecDepth 20000 in
theorem mo_Sta_pageAt : u_MO mSta_pageAt 1 := ⟨by decide, rfl, by decide, by decide, ⟨by decide, by decide⟩, by decide +kernel, uw_mem 356 rfl rfl, uw_mem 59 rfl rfl⟩
set_option maxRecDepth 20000 in
theorem mo_Sta_bringToFront : u_MO mSta_bringToFront 1 := ⟨by decide, rfl, by decide, by decide, ⟨by decide, by decide⟩, by decide +kernel, uw_mem 621 rfl rfl, uw_mem 59 rfl rfl⟩
set_option maxRecDepth 20000 in
theorem mo_Ump_codesOf : u_MO mUmp_codesOf 1 := ⟨by decide, rfl, by decide, by decide, ⟨by decide, by decide⟩, by decide +kernel, uw_mem 493 rfl rfl, uw_mem 53 rfl rfl⟩
set_option maxRecDepth 20000 in
theorem mo_Ump_isName : u_MO mUmp_isName 1 := ⟨by decide, rfl, by decide, by decide, ⟨by decide, by decide⟩, by decide +kernel, uw_mem 329 rfl rfl, uw_mem 53 rfl rfl⟩
set_option maxRecDepth 20000 in
theorem mo_Ump_isNameLetter : u_MO mUmp_isNameLetter 1 := ⟨by decide, rfl, by decide, by decide, ⟨by decide, by decide⟩, by decide +kernel, uw_mem 426 rfl rfl, uw_mem 53 rfl rfl⟩
set_option maxRecDepth 20000 in
theorem mo_Mod_in : u_MO mMod_in 3 := ⟨by decide, rfl, by decide, by decide, ⟨by decide, by decide⟩, by decide +kernel, uw_mem 849 rfl rfl, uw_mem 63 rfl rfl⟩
set_option maxRecDepth 20000 in
theorem mo_Mod_record : u_MO mMod_record 0 := ⟨by decide, rfl, by decide, by decide, ⟨by decide, by decide⟩, by decide +kernel, uw_mem 853 rfl rfl, uw_mem 63 rfl rfl⟩
set_option maxRecDepth 20000 in
theorem mo_Mod_box : u_MO mMod_box 2 := ⟨by decide, rfl, by decide, by decide, ⟨by decide, by decide⟩, by decide +kernel, uw_mem 885 rfl rfl, uw_mem 63 rfl rfl⟩
set_option maxRecDepth 20000 in
theorem mo_Mod_boxes : u_MO mMod_boxes 3 := ⟨by decide, rfl, by decide, by decide, ⟨by decide, by decide⟩, by decide +kernel, uw_mem 889 rfl rfl, uw_mem 63 rfl rfl⟩
set_option maxRecDepth 20000 in
theorem mo_Mod_fails : u_MO mMod_fails 3 := ⟨by decide, rfl, by decide, by decide, ⟨by decide, by decide⟩, by decide +kernel, uw_mem 881 rfl rfl, uw_mem 63 rfl rfl⟩
set_option maxRecDepth 20000 in
theorem mo_Mod_steps : u_MO mMod_steps 2 := ⟨by decide, rfl, by decide, by decide, ⟨by decide, by decide⟩, by decide +kernel, uw_mem 893 rfl rfl, uw_mem 63 rfl rfl⟩
set_option maxRecDepth 20000 in
theorem mo_Mod_rankOf : u_MO mMod_rankOf 3 := ⟨by decide, rfl, by decide, by decide, ⟨by decide, by decide⟩, by decide +kernel, uw_mem 912 rfl rfl, uw_mem 63 rfl rfl⟩
set_option maxRecDepth 20000 in
theorem mo_Mod_takesText : u_MO mMod_takesText 0 := ⟨by decide, rfl, by decide, by decide, ⟨by decide, by decide⟩, by decide +kernel, uw_mem 865 rfl rfl, uw_mem 63 rfl rfl⟩
set_option maxRecDepth 20000 in
theorem mo_Mod_forgets : u_MO mMod_forgets 0 := ⟨by decide, rfl, by decide, by decide, ⟨by decide, by decide⟩, by decide +kernel, uw_mem 920 rfl rfl, uw_mem 63 rfl rfl⟩
set_option maxRecDepth 20000 in
theorem mo_Mod_codes : u_MO mMod_codes 2 := ⟨by decide, rfl, by decide, by decide, ⟨by decide, by decide⟩, by decide +kernel, uw_mem 932 rfl rfl, uw_mem 63 rfl rfl⟩
set_option maxRecDepth 20000 in
theorem mo_Mod_isWord : u_MO mMod_isWord 3 := ⟨by decide, rfl, by decide, by decide, ⟨by decide, by decide⟩, by decide +kernel, uw_mem 948 rfl rfl, uw_mem 63 rfl rfl⟩
set_option maxRecDepth 20000 in
theorem mo_Mod_bitsOf : u_MO mMod_bitsOf 1 := ⟨by decide, rfl, by decide, by decide, ⟨by decide, by decide⟩, by decide +kernel, uw_mem 959 rfl rfl, uw_mem 63 rfl rfl⟩
set_option maxRecDepth 20000 in
theorem mo_Mod_rules : u_MO mMod_rules 0 := ⟨by decide, rfl, by decide, by decide, ⟨by decide, by decide⟩, by decide +kernel, uw_mem 857 rfl rfl, uw_mem 63 rfl rfl⟩
set_option maxRecDepth 20000 in
theorem mo_Mod_type : u_MO mMod_type 1 := ⟨by decide, rfl, by decide, by decide, ⟨by decide, by decide⟩, by decide +kernel, uw_mem 979 rfl rfl, uw_mem 63 rfl rfl⟩
set_option maxRecDepth 20000 in
theorem mo_Mod_clearText : u_MO mMod_clearText 0 := ⟨by decide, rfl, by decide, by decide, ⟨by decide, by decide⟩, by decide +kernel, uw_mem 983 rfl rfl, uw_mem 63 rfl rfl⟩
set_option maxRecDepth 20000 in
theorem mo_Mod_undo : u_MO mMod_undo 0 := ⟨by decide, rfl, by decide, by decide, ⟨by decide, by decide⟩, by decide +kernel, uw_mem 991 rfl rfl, uw_mem 63 rfl rfl⟩
set_option maxRecDepth 20000 in
theorem mo_Mod_keep : u_MO mMod_keep 0 := ⟨by decide, rfl, by decide, by decide, ⟨by decide, by decide⟩, by decide +kernel, uw_mem 995 rfl rfl, uw_mem 63 rfl rfl⟩
set_option maxRecDepth 20000 in
theorem mo_Int_bitCount : u_MO mInt_bitCount 1 := ⟨by decide, rfl, by decide, by decide, ⟨by decide, by decide⟩, by decide +kernel, uw_mem 558 rfl rfl, uw_mem 64 rfl rfl⟩
set_option maxRecDepth 20000 in
theorem mo_Cod_clear : u_MO mCod_clear 0 := ⟨by decide, rfl, by decide, by decide, ⟨by decide, by decide⟩, by decide +kernel, uw_mem 502 rfl rfl, uw_mem 62 rfl rfl⟩
set_option maxRecDepth 20000 in
theorem mo_Cod_bitsOfRow : u_MO mCod_bitsOfRow 1 := ⟨by decide, rfl, by decide, by decide, ⟨by decide, by decide⟩, by decide +kernel, uw_mem 579 rfl rfl, uw_mem 62 rfl rfl⟩
set_option maxRecDepth 20000 in
theorem mo_Frl_init : u_MO mFrl_init 1 := ⟨by decide, rfl, by decide, by decide, ⟨by decide, by decide⟩, by decide +kernel, uw_mem 232 rfl rfl, uw_mem 61 rfl rfl⟩
set_option maxRecDepth 20000 in
theorem mo_Frl_meet : u_MO mFrl_meet 1 := ⟨by decide, rfl, by decide, by decide, ⟨by decide, by decide⟩, by decide +kernel, uw_mem 527 rfl rfl, uw_mem 61 rfl rfl⟩
set_option maxRecDepth 20000 in
theorem mo_Kno_forget : u_MO mKno_forget 0 := ⟨by decide, rfl, by decide, by decide, ⟨by decide, by decide⟩, by decide +kernel, uw_mem 600 rfl rfl, uw_mem 60 rfl rfl⟩
set_option maxRecDepth 20000 in
theorem mo_Kno_valueOf : u_MO mKno_valueOf 2 := ⟨by decide, rfl, by decide, by decide, ⟨by decide, by decide⟩, by decide +kernel, uw_mem 554 rfl rfl, uw_mem 60 rfl rfl⟩
set_option maxRecDepth 20000 in
theorem mo_Pag_clear : u_MO mPag_clear 0 := ⟨by decide, rfl, by decide, by decide, ⟨by decide, by decide⟩, by decide +kernel, uw_mem 393 rfl rfl, uw_mem 57 rfl rfl⟩
set_option maxRecDepth 20000 in
theorem mo_Pag_addBox : u_MO mPag_addBox 3 := ⟨by decide, rfl, by decide, by decide, ⟨by decide, by decide⟩, by decide +kernel, uw_mem 451 rfl rfl, uw_mem 57 rfl rfl⟩
set_option maxRecDepth 20000 in
theorem mo_Pag_addWord : u_MO mPag_addWord 2 := ⟨by decide, rfl, by decide, by decide, ⟨by decide, by decide⟩, by decide +kernel, uw_mem 466 rfl rfl, uw_mem 57 rfl rfl⟩
set_option maxRecDepth 20000 in
theorem mo_Pag_lengthenWord : u_MO mPag_lengthenWord 0 := ⟨by decide, rfl, by decide, by decide, ⟨by decide, by decide⟩, by decide +kernel, uw_mem 470 rfl rfl, uw_mem 57 rfl rfl⟩
set_option maxRecDepth 20000 in
theorem mo_Pag_keyOfNote : u_MO mPag_keyOfNote 2 := ⟨by decide, rfl, by decide, by decide, ⟨by decide, by decide⟩, by decide +kernel, uw_mem 540 rfl rfl, uw_mem 57 rfl rfl⟩
set_option maxRecDepth 20000 in
theorem mo_Pag_boxInside : u_MO mPag_boxInside 3 := ⟨by decide, rfl, by decide, by decide, ⟨by decide, by decide⟩, by decide +kernel, uw_mem 693 rfl rfl, uw_mem 57 rfl rfl⟩
set_option maxRecDepth 20000 in
theorem mo_Pth_partCount : u_MO mPth_partCount 0 := ⟨by decide, rfl, by decide, by decide, ⟨by decide, by decide⟩, by decide +kernel, uw_mem 707 rfl rfl, uw_mem 58 rfl rfl⟩
set_option maxRecDepth 20000 in
theorem mo_Pth_takes : u_MO mPth_takes 1 := ⟨by decide, rfl, by decide, by decide, ⟨by decide, by decide⟩, by decide +kernel, uw_mem 682 rfl rfl, uw_mem 58 rfl rfl⟩
set_option maxRecDepth 20000 in
theorem mo_Rea_expect : u_MO mRea_expect 3 := ⟨by decide, rfl, by decide, by decide, ⟨by decide, by decide⟩, by decide +kernel, uw_mem 415 rfl rfl, uw_mem 56 rfl rfl⟩
set_option maxRecDepth 20000 in
theorem mo_Rea_takeKey : u_MO mRea_takeKey 2 := ⟨by decide, rfl, by decide, by decide, ⟨by decide, by decide⟩, by decide +kernel, uw_mem 457 rfl rfl, uw_mem 56 rfl rfl⟩
set_option maxRecDepth 20000 in
theorem mo_Rea_latestName : u_MO mRea_latestName 0 := ⟨by decide, rfl, by decide, by decide, ⟨by decide, by decide⟩, by decide +kernel, uw_mem 434 rfl rfl, uw_mem 56 rfl rfl⟩
set_option maxRecDepth 20000 in
theorem mo_Rea_close : u_MO mRea_close 1 := ⟨by decide, rfl, by decide, by decide, ⟨by decide, by decide⟩, by decide +kernel, uw_mem 443 rfl rfl, uw_mem 56 rfl rfl⟩
set_option maxRecDepth 20000 in
theorem mo_Row_init : u_MO mRow_init 1 := ⟨by decide, rfl, by decide, by decide, ⟨by decide, by decide⟩, by decide +kernel, uw_mem 77 rfl rfl, uw_mem 54 rfl rfl⟩
set_option maxRecDepth 20000 in
theorem mo_Row_become : u_MO mRow_become 1 := ⟨by decide, rfl, by decide, by decide, ⟨by decide, by decide⟩, by decide +kernel, uw_mem 349 rfl rfl, uw_mem 54 rfl rfl⟩
set_option maxRecDepth 20000 in
theorem mo_Sta_ends : u_MO mSta_ends 2 := ⟨by decide, rfl, by decide, by decide, ⟨by decide, by decide⟩, by decide +kernel, uw_mem 333 rfl rfl, uw_mem 59 rfl rfl⟩
set_option maxRecDepth 20000 in
theorem mo_Sta_setEnds : u_MO mSta_setEnds 3 := ⟨by decide, rfl, by decide, by decide, ⟨by decide, by decide⟩, by decide +kernel, uw_mem 369 rfl rfl, uw_mem 59 rfl rfl⟩
set_option maxRecDepth 20000 in
theorem mo_Sta_ruleCount : u_MO mSta_ruleCount 0 := ⟨by decide, rfl, by decide, by decide, ⟨by decide, by decide⟩, by decide +kernel, uw_mem 377 rfl rfl, uw_mem 59 rfl rfl⟩
set_option maxRecDepth 20000 in
theorem mo_Sta_letterCount : u_MO mSta_letterCount 0 := ⟨by decide, rfl, by decide, by decide, ⟨by decide, by decide⟩, by decide +kernel, uw_mem 730 rfl rfl, uw_mem 59 rfl rfl⟩
set_option maxRecDepth 20000 in
theorem mo_Sta_stepCount : u_MO mSta_stepCount 1 := ⟨by decide, rfl, by decide, by decide, ⟨by decide, by decide⟩, by decide +kernel, uw_mem 735 rfl rfl, uw_mem 59 rfl rfl⟩
set_option maxRecDepth 20000 in
theorem mo_Ump_type : u_MO mUmp_type 1 := ⟨by decide, rfl, by decide, by decide, ⟨by decide, by decide⟩, by decide +kernel, uw_mem 625 rfl rfl, uw_mem 53 rfl rfl⟩
set_option maxRecDepth 20000 in
theorem mo_Ump_clearText : u_MO mUmp_clearText 0 := ⟨by decide, rfl, by decide, by decide, ⟨by decide, by decide⟩, by decide +kernel, uw_mem 631 rfl rfl, uw_mem 53 rfl rfl⟩
set_option maxRecDepth 20000 in
theorem mo_Ump_charAt : u_MO mUmp_charAt 2 := ⟨by decide, rfl, by decide, by decide, ⟨by decide, by decide⟩, by decide +kernel, uw_mem 652 rfl rfl, uw_mem 53 rfl rfl⟩
set_option maxRecDepth 20000 in
theorem mo_Ump_code : u_MO mUmp_code 3 := ⟨by decide, rfl, by decide, by decide, ⟨by decide, by decide⟩, by decide +kernel, uw_mem 657 rfl rfl, uw_mem 53 rfl rfl⟩
set_option maxRecDepth 20000 in
theorem mo_Ump_known : u_MO mUmp_known 2 := ⟨by decide, rfl, by decide, by decide, ⟨by decide, by decide⟩, by decide +kernel, uw_mem 711 rfl rfl, uw_mem 53 rfl rfl⟩
set_option maxRecDepth 20000 in
theorem mo_Mod_init : u_MO mMod_init 0 := ⟨by decide, rfl, by decide, by decide, ⟨by decide, by decide⟩, by decide +kernel, uw_mem 740 rfl rfl, uw_mem 63 rfl rfl⟩
set_option maxRecDepth 20000 in
theorem mo_Mod_no : u_MO mMod_no 1 := ⟨by decide, rfl, by decide, by decide, ⟨by decide, by decide⟩, by decide +kernel, uw_mem 971 rfl rfl, uw_mem 63 rfl rfl⟩
set_option maxRecDepth 20000 in
theorem mo_Mod_noName : u_MO mMod_noName 1 := ⟨by decide, rfl, by decide, by decide, ⟨by decide, by decide⟩, by decide +kernel, uw_mem 846 rfl rfl, uw_mem 63 rfl rfl⟩
set_option maxRecDepth 20000 in
theorem mo_Mod_isAt : u_MO mMod_isAt 3 := ⟨by decide, rfl, by decide, by decide, ⟨by decide, by decide⟩, by decide +kernel, uw_mem 873 rfl rfl, uw_mem 63 rfl rfl⟩
set_option maxRecDepth 20000 in
theorem mo_Mod_implies : u_MO mMod_implies 2 := ⟨by decide, rfl, by decide, by decide, ⟨by decide, by decide⟩, by decide +kernel, uw_mem 901 rfl rfl, uw_mem 63 rfl rfl⟩
set_option maxRecDepth 20000 in
theorem mo_Mod_codesName : u_MO mMod_codesName 1 := ⟨by decide, rfl, by decide, by decide, ⟨by decide, by decide⟩, by decide +kernel, uw_mem 936 rfl rfl, uw_mem 63 rfl rfl⟩
set_option maxRecDepth 20000 in
theorem mo_Mod_codesNotes : u_MO mMod_codesNotes 1 := ⟨by decide, rfl, by decide, by decide, ⟨by decide, by decide⟩, by decide +kernel, uw_mem 940 rfl rfl, uw_mem 63 rfl rfl⟩
set_option maxRecDepth 20000 in
theorem mo_Mod_codesWord : u_MO mMod_codesWord 2 := ⟨by decide, rfl, by decide, by decide, ⟨by decide, by decide⟩, by decide +kernel, uw_mem 944 rfl rfl, uw_mem 63 rfl rfl⟩
set_option maxRecDepth 20000 in
theorem mo_Mod_rowBits : u_MO mMod_rowBits 1 := ⟨by decide, rfl, by decide, by decide, ⟨by decide, by decide⟩, by decide +kernel, uw_mem 956 rfl rfl, uw_mem 63 rfl rfl⟩
set_option maxRecDepth 20000 in
theorem mo_Mod_unpackLast : u_MO mMod_unpackLast 0 := ⟨by decide, rfl, by decide, by decide, ⟨by decide, by decide⟩, by decide +kernel, uw_mem 963 rfl rfl, uw_mem 63 rfl rfl⟩
set_option maxRecDepth 20000 in
theorem mo_Mod_restore : u_MO mMod_restore 0 := ⟨by decide, rfl, by decide, by decide, ⟨by decide, by decide⟩, by decide +kernel, uw_mem 999 rfl rfl, uw_mem 63 rfl rfl⟩
set_option maxRecDepth 20000 in
theorem mo_Mod_partsOfText : u_MO mMod_partsOfText 0 := ⟨by decide, rfl, by decide, by decide, ⟨by decide, by decide⟩, by decide +kernel, uw_mem 1023 rfl rfl, uw_mem 63 rfl rfl⟩
set_option maxRecDepth 20000 in
theorem mo_Mod_inner : u_MO mMod_inner 3 := ⟨by decide, rfl, by decide, by decide, ⟨by decide, by decide⟩, by decide +kernel, uw_mem 1027 rfl rfl, uw_mem 63 rfl rfl⟩
set_option maxRecDepth 20000 in
theorem mo_Cod_init : u_MO mCod_init 0 := ⟨by decide, rfl, by decide, by decide, ⟨by decide, by decide⟩, by decide +kernel, uw_mem 265 rfl rfl, uw_mem 62 rfl rfl⟩
set_option maxRecDepth 20000 in
theorem mo_Cod_bitsOfAll : u_MO mCod_bitsOfAll 0 := ⟨by decide, rfl, by decide, by decide, ⟨by decide, by decide⟩, by decide +kernel, uw_mem 575 rfl rfl, uw_mem 62 rfl rfl⟩
set_option maxRecDepth 20000 in
theorem mo_Kno_init : u_MO mKno_init 0 := ⟨by decide, rfl, by decide, by decide, ⟨by decide, by decide⟩, by decide +kernel, uw_mem 225 rfl rfl, uw_mem 60 rfl rfl⟩
set_option maxRecDepth 20000 in
theorem mo_Kno_takeName : u_MO mKno_takeName 3 := ⟨by decide, rfl, by decide, by decide, ⟨by decide, by decide⟩, by decide +kernel, uw_mem 509 rfl rfl, uw_mem 60 rfl rfl⟩
set_option maxRecDepth 20000 in
theorem mo_Kno_takeValue : u_MO mKno_takeValue 4 := ⟨by decide, rfl, by decide, by decide, ⟨by decide, by decide⟩, by decide +kernel, uw_mem 550 rfl rfl, uw_mem 60 rfl rfl⟩
set_option maxRecDepth 20000 in
theorem mo_Kno_takeWord : u_MO mKno_takeWord 3 := ⟨by decide, rfl, by decide, by decide, ⟨by decide, by decide⟩, by decide +kernel, uw_mem 569 rfl rfl, uw_mem 60 rfl rfl⟩
set_option maxRecDepth 20000 in
theorem mo_Pag_init : u_MO mPag_init 0 := ⟨by decide, rfl, by decide, by decide, ⟨by decide, by decide⟩, by decide +kernel, uw_mem 100 rfl rfl, uw_mem 57 rfl rfl⟩
set_option maxRecDepth 20000 in
theorem mo_Pag_become : u_MO mPag_become 1 := ⟨by decide, rfl, by decide, by decide, ⟨by decide, by decide⟩, by decide +kernel, uw_mem 364 rfl rfl, uw_mem 57 rfl rfl⟩
set_option maxRecDepth 20000 in
theorem mo_Pag_valueOfKey : u_MO mPag_valueOfKey 2 := ⟨by decide, rfl, by decide, by decide, ⟨by decide, by decide⟩, by decide +kernel, uw_mem 546 rfl rfl, uw_mem 57 rfl rfl⟩
set_option maxRecDepth 20000 in
theorem mo_Pag_keySet : u_MO mPag_keySet 1 := ⟨by decide, rfl, by decide, by decide, ⟨by decide, by decide⟩, by decide +kernel, uw_mem 536 rfl rfl, uw_mem 57 rfl rfl⟩
set_option maxRecDepth 20000 in
theorem mo_Pag_orderOfKeys : u_MO mPag_orderOfKeys 2 := ⟨by decide, rfl, by decide, by decide, ⟨by decide, by decide⟩, by decide +kernel, uw_mem 565 rfl rfl, uw_mem 57 rfl rfl⟩
set_option maxRecDepth 20000 in
theorem mo_Pth_init : u_MO mPth_init 0 := ⟨by decide, rfl, by decide, by decide, ⟨by decide, by decide⟩, by decide +kernel, uw_mem 180 rfl rfl, uw_mem 58 rfl rfl⟩
set_option maxRecDepth 20000 in
theorem mo_Pth_readFault : u_MO mPth_readFault 1 := ⟨by decide, rfl, by decide, by decide, ⟨by decide, by decide⟩, by decide +kernel, uw_mem 675 rfl rfl, uw_mem 58 rfl rfl⟩
set_option maxRecDepth 20000 in
theorem mo_Pth_boxIn : u_MO mPth_boxIn 1 := ⟨by decide, rfl, by decide, by decide, ⟨by decide, by decide⟩, by decide +kernel, uw_mem 689 rfl rfl, uw_mem 58 rfl rfl⟩
set_option maxRecDepth 20000 in
theorem mo_Rea_openBox : u_MO mRea_openBox 3 := ⟨by decide, rfl, by decide, by decide, ⟨by decide, by decide⟩, by decide +kernel, uw_mem 430 rfl rfl, uw_mem 56 rfl rfl⟩
set_option maxRecDepth 20000 in
theorem mo_Rea_takeInBox : u_MO mRea_takeInBox 2 := ⟨by decide, rfl, by decide, by decide, ⟨by decide, by decide⟩, by decide +kernel, uw_mem 462 rfl rfl, uw_mem 56 rfl rfl⟩
set_option maxRecDepth 20000 in
theorem mo_Rea_takeClosingEnd : u_MO mRea_takeClosingEnd 2 := ⟨by decide, rfl, by decide, by decide, ⟨by decide, by decide⟩, by decide +kernel, uw_mem 485 rfl rfl, uw_mem 56 rfl rfl⟩
set_option maxRecDepth 20000 in
theorem mo_Rea_isEndedByClosing : u_MO mRea_isEndedByClosing 2 := ⟨by decide, rfl, by decide, by decide, ⟨by decide, by decide⟩, by decide +kernel, uw_mem 481 rfl rfl, uw_mem 56 rfl rfl⟩
set_option maxRecDepth 20000 in
theorem mo_Ump_latest : u_MO mUmp_latest 2 := ⟨by decide, rfl, by decide, by decide, ⟨by decide, by decide⟩, by decide +kernel, uw_mem 721 rfl rfl, uw_mem 53 rfl rfl⟩
set_option maxRecDepth 20000 in
theorem mo_Mod_readNotes : u_MO mMod_readNotes 2 := ⟨by decide, rfl, by decide, by decide, ⟨by decide, by decide⟩, by decide +kernel, uw_mem 909 rfl rfl, uw_mem 63 rfl rfl⟩
set_option maxRecDepth 20000 in
theorem mo_Mod_closes : u_MO mMod_closes 1 := ⟨by decide, rfl, by decide, by decide, ⟨by decide, by decide⟩, by decide +kernel, uw_mem 897 rfl rfl, uw_mem 63 rfl rfl⟩
set_option maxRecDepth 20000 in
theorem mo_Mod_readWord : u_MO mMod_readWord 1 := ⟨by decide, rfl, by decide, by decide, ⟨by decide, by decide⟩, by decide +kernel, uw_mem 877 rfl rfl, uw_mem 63 rfl rfl⟩
set_option maxRecDepth 20000 in
theorem mo_Mod_packs : u_MO mMod_packs 0 := ⟨by decide, rfl, by decide, by decide, ⟨by decide, by decide⟩, by decide +kernel, uw_mem 928 rfl rfl, uw_mem 63 rfl rfl⟩
set_option maxRecDepth 20000 in
theorem mo_Mod_pageBits : u_MO mMod_pageBits 0 := ⟨by decide, rfl, by decide, by decide, ⟨by decide, by decide⟩, by decide +kernel, uw_mem 952 rfl rfl, uw_mem 63 rfl rfl⟩
set_option maxRecDepth 20000 in
theorem mo_Mod_rule : u_MO mMod_rule 3 := ⟨by decide, rfl, by decide, by decide, ⟨by decide, by decide⟩, by decide +kernel, uw_mem 843 rfl rfl, uw_mem 63 rfl rfl⟩
set_option maxRecDepth 20000 in
theorem mo_Mod_charAt : u_MO mMod_charAt 2 := ⟨by decide, rfl, by decide, by decide, ⟨by decide, by decide⟩, by decide +kernel, uw_mem 1003 rfl rfl, uw_mem 63 rfl rfl⟩
set_option maxRecDepth 20000 in
theorem mo_Kno_takeNotes : u_MO mKno_takeNotes 3 := ⟨by decide, rfl, by decide, by decide, ⟨by decide, by decide⟩, by decide +kernel, uw_mem 532 rfl rfl, uw_mem 60 rfl rfl⟩
set_option maxRecDepth 20000 in
theorem mo_Rea_init : u_MO mRea_init 0 := ⟨by decide, rfl, by decide, by decide, ⟨by decide, by decide⟩, by decide +kernel, uw_mem 94 rfl rfl, uw_mem 56 rfl rfl⟩
set_option maxRecDepth 20000 in
theorem mo_Rea_takeBehindMark : u_MO mRea_takeBehindMark 3 := ⟨by decide, rfl, by decide, by decide, ⟨by decide, by decide⟩, by decide +kernel, uw_mem 423 rfl rfl, uw_mem 56 rfl rfl⟩
set_option maxRecDepth 20000 in
theorem mo_Rea_takeClosingName : u_MO mRea_takeClosingName 3 := ⟨by decide, rfl, by decide, by decide, ⟨by decide, by decide⟩, by decide +kernel, uw_mem 477 rfl rfl, uw_mem 56 rfl rfl⟩
set_option maxRecDepth 20000 in
theorem mo_Sta_init : u_MO mSta_init 0 := ⟨by decide, rfl, by decide, by decide, ⟨by decide, by decide⟩, by decide +kernel, uw_mem 198 rfl rfl, uw_mem 59 rfl rfl⟩
set_option maxRecDepth 20000 in
theorem mo_Sta_addPage : u_MO mSta_addPage 1 := ⟨by decide, rfl, by decide, by decide, ⟨by decide, by decide⟩, by decide +kernel, uw_mem 360 rfl rfl, uw_mem 59 rfl rfl⟩
set_option maxRecDepth 20000 in
theorem mo_Ump_bits : u_MO mUmp_bits 2 := ⟨by decide, rfl, by decide, by decide, ⟨by decide, by decide⟩, by decide +kernel, uw_mem 662 rfl rfl, uw_mem 53 rfl rfl⟩
set_option maxRecDepth 20000 in
theorem mo_Ump_toldOfBox : u_MO mUmp_toldOfBox 3 := ⟨by decide, rfl, by decide, by decide, ⟨by decide, by decide⟩, by decide +kernel, uw_mem 697 rfl rfl, uw_mem 53 rfl rfl⟩
set_option maxRecDepth 20000 in
theorem mo_Ump_bitsOfAllPages : u_MO mUmp_bitsOfAllPages 0 := ⟨by decide, rfl, by decide, by decide, ⟨by decide, by decide⟩, by decide +kernel, uw_mem 617 rfl rfl, uw_mem 53 rfl rfl⟩
set_option maxRecDepth 20000 in
theorem mo_Mod_opens : u_MO mMod_opens 1 := ⟨by decide, rfl, by decide, by decide, ⟨by decide, by decide⟩, by decide +kernel, uw_mem 905 rfl rfl, uw_mem 63 rfl rfl⟩
set_option maxRecDepth 20000 in
theorem mo_Kno_take : u_MO mKno_take 2 := ⟨by decide, rfl, by decide, by decide, ⟨by decide, by decide⟩, by decide +kernel, uw_mem 498 rfl rfl, uw_mem 60 rfl rfl⟩
set_option maxRecDepth 20000 in
theorem mo_Rea_take : u_MO mRea_take 3 := ⟨by decide, rfl, by decide, by decide, ⟨by decide, by decide⟩, by decide +kernel, uw_mem 411 rfl rfl, uw_mem 56 rfl rfl⟩
set_option maxRecDepth 20000 in
theorem mo_Sta_become : u_MO mSta_become 1 := ⟨by decide, rfl, by decide, by decide, ⟨by decide, by decide⟩, by decide +kernel, uw_mem 345 rfl rfl, uw_mem 59 rfl rfl⟩
set_option maxRecDepth 20000 in
theorem mo_Ump_init : u_MO mUmp_init 0 := ⟨by decide, rfl, by decide, by decide, ⟨by decide, by decide⟩, by decide +kernel, uw_mem 69 rfl rfl, uw_mem 53 rfl rfl⟩
set_option maxRecDepth 20000 in
theorem mo_Ump_path : u_MO mUmp_path 2 := ⟨by decide, rfl, by decide, by decide, ⟨by decide, by decide⟩, by decide +kernel, uw_mem 671 rfl rfl, uw_mem 53 rfl rfl⟩
set_option maxRecDepth 20000 in
theorem mo_Ump_count : u_MO mUmp_count 1 := ⟨by decide, rfl, by decide, by decide, ⟨by decide, by decide⟩, by decide +kernel, uw_mem 726 rfl rfl, uw_mem 53 rfl rfl⟩
set_option maxRecDepth 20000 in
theorem mo_Mod_isPage : u_MO mMod_isPage 0 := ⟨by decide, rfl, by decide, by decide, ⟨by decide, by decide⟩, by decide +kernel, uw_mem 869 rfl rfl, uw_mem 63 rfl rfl⟩
set_option maxRecDepth 20000 in
theorem mo_Rea_read : u_MO mRea_read 2 := ⟨by decide, rfl, by decide, by decide, ⟨by decide, by decide⟩, by decide +kernel, uw_mem 389 rfl rfl, uw_mem 56 rfl rfl⟩
set_option maxRecDepth 20000 in
theorem mo_Ump_keep : u_MO mUmp_keep 0 := ⟨by decide, rfl, by decide, by decide, ⟨by decide, by decide⟩, by decide +kernel, uw_mem 644 rfl rfl, uw_mem 53 rfl rfl⟩
set_option maxRecDepth 20000 in
theorem mo_Ump_recordState : u_MO mUmp_recordState 0 := ⟨by decide, rfl, by decide, by decide, ⟨by decide, by decide⟩, by decide +kernel, uw_mem 341 rfl rfl, uw_mem 53 rfl rfl⟩
set_option maxRecDepth 20000 in
theorem mo_Ump_packAnew : u_MO mUmp_packAnew 0 := ⟨by decide, rfl, by decide, by decide, ⟨by decide, by decide⟩, by decide +kernel, uw_mem 596 rfl rfl, uw_mem 53 rfl rfl⟩
set_option maxRecDepth 20000 in
theorem mo_Mod_takesPage : u_MO mMod_takesPage 1 := ⟨by decide, rfl, by decide, by decide, ⟨by decide, by decide⟩, by decide +kernel, uw_mem 924 rfl rfl, uw_mem 63 rfl rfl⟩
set_option maxRecDepth 20000 in
theorem mo_Mod_fault : u_MO mMod_fault 1 := ⟨by decide, rfl, by decide, by decide, ⟨by decide, by decide⟩, by decide +kernel, uw_mem 987 rfl rfl, uw_mem 63 rfl rfl⟩
set_option maxRecDepth 20000 in
theorem mo_Ump_rule : u_MO mUmp_rule 3 := ⟨by decide, rfl, by decide, by decide, ⟨by decide, by decide⟩, by decide +kernel, uw_mem 326 rfl rfl, uw_mem 53 rfl rfl⟩
set_option maxRecDepth 20000 in
theorem mo_Ump_pack : u_MO mUmp_pack 0 := ⟨by decide, rfl, by decide, by decide, ⟨by decide, by decide⟩, by decide +kernel, uw_mem 385 rfl rfl, uw_mem 53 rfl rfl⟩
set_option maxRecDepth 20000 in
theorem mo_Ump_unpackLast : u_MO mUmp_unpackLast 0 := ⟨by decide, rfl, by decide, by decide, ⟨by decide, by decide⟩, by decide +kernel, uw_mem 592 rfl rfl, uw_mem 53 rfl rfl⟩
set_option maxRecDepth 20000 in
theorem mo_Ump_first : u_MO mUmp_first 1 := ⟨by decide, rfl, by decide, by decide, ⟨by decide, by decide⟩, by decide +kernel, uw_mem 609 rfl rfl, uw_mem 53 rfl rfl⟩
set_option maxRecDepth 20000 in
theorem mo_Ump_fault : u_MO mUmp_fault 1 := ⟨by decide, rfl, by decide, by decide, ⟨by decide, by decide⟩, by decide +kernel, uw_mem 636 rfl rfl, uw_mem 53 rfl rfl⟩
set_option maxRecDepth 20000 in
theorem mo_Ump_undo : u_MO mUmp_undo 0 := ⟨by decide, rfl, by decide, by decide, ⟨by decide, by decide⟩, by decide +kernel, uw_mem 640 rfl rfl, uw_mem 53 rfl rfl⟩
set_option maxRecDepth 20000 in
theorem mo_Ump_restore : u_MO mUmp_restore 0 := ⟨by decide, rfl, by decide, by decide, ⟨by decide, by decide⟩, by decide +kernel, uw_mem 648 rfl rfl, uw_mem 53 rfl rfl⟩
set_option maxRecDepth 20000 in
theorem mo_Ump_wouldTake : u_MO mUmp_wouldTake 1 := ⟨by decide, rfl, by decide, by decide, ⟨by decide, by decide⟩, by decide +kernel, uw_mem 667 rfl rfl, uw_mem 53 rfl rfl⟩
set_option maxRecDepth 20000 in
theorem mo_Mod_packsUpTo : u_MO mMod_packsUpTo 1 := ⟨by decide, rfl, by decide, by decide, ⟨by decide, by decide⟩, by decide +kernel, uw_mem 916 rfl rfl, uw_mem 63 rfl rfl⟩
set_option maxRecDepth 20000 in
theorem mo_Mod_allBits : u_MO mMod_allBits 0 := ⟨by decide, rfl, by decide, by decide, ⟨by decide, by decide⟩, by decide +kernel, uw_mem 975 rfl rfl, uw_mem 63 rfl rfl⟩
set_option maxRecDepth 20000 in
theorem mo_Mod_path : u_MO mMod_path 2 := ⟨by decide, rfl, by decide, by decide, ⟨by decide, by decide⟩, by decide +kernel, uw_mem 1019 rfl rfl, uw_mem 63 rfl rfl⟩
set_option maxRecDepth 20000 in
theorem mo_Mod_overPages : u_MO mMod_overPages 1 := ⟨by decide, rfl, by decide, by decide, ⟨by decide, by decide⟩, by decide +kernel, uw_mem 1043 rfl rfl, uw_mem 63 rfl rfl⟩
set_option maxRecDepth 20000 in
theorem mo_Mod_pack : u_MO mMod_pack 0 := ⟨by decide, rfl, by decide, by decide, ⟨by decide, by decide⟩, by decide +kernel, uw_mem 861 rfl rfl, uw_mem 63 rfl rfl⟩
set_option maxRecDepth 20000 in
theorem mo_Mod_first : u_MO mMod_first 1 := ⟨by decide, rfl, by decide, by decide, ⟨by decide, by decide⟩, by decide +kernel, uw_mem 967 rfl rfl, uw_mem 63 rfl rfl⟩
set_option maxRecDepth 20000 in
theorem mo_Mod_code : u_MO mMod_code 3 := ⟨by decide, rfl, by decide, by decide, ⟨by decide, by decide⟩, by decide +kernel, uw_mem 1007 rfl rfl, uw_mem 63 rfl rfl⟩
set_option maxRecDepth 20000 in
theorem mo_Mod_bits : u_MO mMod_bits 2 := ⟨by decide, rfl, by decide, by decide, ⟨by decide, by decide⟩, by decide +kernel, uw_mem 1011 rfl rfl, uw_mem 63 rfl rfl⟩
set_option maxRecDepth 20000 in
theorem mo_Mod_wouldTake : u_MO mMod_wouldTake 1 := ⟨by decide, rfl, by decide, by decide, ⟨by decide, by decide⟩, by decide +kernel, uw_mem 1015 rfl rfl, uw_mem 63 rfl rfl⟩
set_option maxRecDepth 20000 in
theorem mo_Mod_known : u_MO mMod_known 2 := ⟨by decide, rfl, by decide, by decide, ⟨by decide, by decide⟩, by decide +kernel, uw_mem 1031 rfl rfl, uw_mem 63 rfl rfl⟩
set_option maxRecDepth 20000 in
theorem mo_Mod_latest : u_MO mMod_latest 2 := ⟨by decide, rfl, by decide, by decide, ⟨by decide, by decide⟩, by decide +kernel, uw_mem 1035 rfl rfl, uw_mem 63 rfl rfl⟩
set_option maxRecDepth 20000 in
theorem mo_Mod_count : u_MO mMod_count 1 := ⟨by decide, rfl, by decide, by decide, ⟨by decide, by decide⟩, by decide +kernel, uw_mem 1039 rfl rfl, uw_mem 63 rfl rfl⟩
set_option maxRecDepth 20000 in
theorem kV_Cod_29 : u_CV "UnmarkedPages$Codes" 29 6 mRow_clear 0 := ⟨mo_Row_clear, uw_mem 503 rfl rfl, uw_mem 395 rfl rfl, uw_mem 396 rfl rfl, _, rfl, rfl⟩
set_option maxRecDepth 20000 in
theorem kV_Cod_32 : u_CV "UnmarkedPages$Codes" 32 6 mRow_size 0 := ⟨mo_Row_size, uw_mem 580 rfl rfl, uw_mem 400 rfl rfl, uw_mem 401 rfl rfl, _, rfl, rfl⟩
set_option maxRecDepth 20000 in
theorem kV_Cod_36 : u_CV "UnmarkedPages$Codes" 36 0 mCod_rowAt 1 := ⟨mo_Cod_rowAt, uw_mem 581 rfl rfl, uw_mem 582 rfl rfl, uw_mem 583 rfl rfl, _, rfl, rfl⟩
set_option maxRecDepth 20000 in
theorem kV_Cod_40 : u_CV "UnmarkedPages$Codes" 40 6 mRow_at 1 := ⟨mo_Row_at, uw_mem 585 rfl rfl, uw_mem 335 rfl rfl, uw_mem 336 rfl rfl, _, rfl, rfl⟩
set_option maxRecDepth 20000 in
theorem kS_Cod_44 : u_CS "UnmarkedPages$Codes" 44 mCod_bitsOfCode 1 := ⟨mo_Cod_bitsOfCode, Or.inl (uw_mem 586 rfl rfl), uw_mem 587 rfl rfl⟩
set_option maxRecDepth 20000 in
theorem kI_Frl_3 : Cond.methodLink "UnmarkedPages$FrontList" 3 Lib.objectInit ∈ uw_W := uw_mem 233 rfl rfl
set_option maxRecDepth 20000 in
theorem kS_Frl_9 : Cond.methodLink "UnmarkedPages$FrontList" 9 Lib.Math.max.name ∈ uw_W := uw_mem 234 rfl rfl
set_option maxRecDepth 20000 in
theorem kV_Frl_25 : u_CV "UnmarkedPages$FrontList" 25 1 mFrl_placeOf 1 := ⟨mo_Frl_placeOf, uw_mem 528 rfl rfl, uw_mem 516 rfl rfl, uw_mem 517 rfl rfl, _, rfl, rfl⟩
set_option maxRecDepth 20000 in
theorem kV_Kno_37 : u_CV "UnmarkedPages$Known" 37 1 mFrl_clear 0 := ⟨mo_Frl_clear, uw_mem 601 rfl rfl, uw_mem 602 rfl rfl, uw_mem 603 rfl rfl, _, rfl, rfl⟩
set_option maxRecDepth 20000 in
theorem kV_Kno_34 : u_CV "UnmarkedPages$Known" 34 6 mRow_fill 1 := ⟨mo_Row_fill, uw_mem 245 rfl rfl, uw_mem 205 rfl rfl, uw_mem 206 rfl rfl, _, rfl, rfl⟩
set_option maxRecDepth 20000 in
theorem kV_Kno_40 : u_CV "UnmarkedPages$Known" 40 6 mRow_at 1 := ⟨mo_Row_at, uw_mem 510 rfl rfl, uw_mem 335 rfl rfl, uw_mem 336 rfl rfl, _, rfl, rfl⟩
set_option maxRecDepth 20000 in
theorem kV_Pag_41 : u_CV "UnmarkedPages$Page" 41 6 mRow_clear 0 := ⟨mo_Row_clear, uw_mem 394 rfl rfl, uw_mem 395 rfl rfl, uw_mem 396 rfl rfl, _, rfl, rfl⟩
set_option maxRecDepth 20000 in
theorem kV_Pag_48 : u_CV "UnmarkedPages$Page" 48 6 mRow_add 1 := ⟨mo_Row_add, uw_mem 452 rfl rfl, uw_mem 405 rfl rfl, uw_mem 406 rfl rfl, _, rfl, rfl⟩
set_option maxRecDepth 20000 in
theorem kV_Pag_51 : u_CV "UnmarkedPages$Page" 51 6 mRow_size 0 := ⟨mo_Row_size, uw_mem 471 rfl rfl, uw_mem 400 rfl rfl, uw_mem 401 rfl rfl, _, rfl, rfl⟩
set_option maxRecDepth 20000 in
theorem kV_Pag_55 : u_CV "UnmarkedPages$Page" 55 6 mRow_last 0 := ⟨mo_Row_last, uw_mem 472 rfl rfl, uw_mem 436 rfl rfl, uw_mem 437 rfl rfl, _, rfl, rfl⟩
set_option maxRecDepth 20000 in
theorem kV_Pag_58 : u_CV "UnmarkedPages$Page" 58 6 mRow_put 2 := ⟨mo_Row_put, uw_mem 473 rfl rfl, uw_mem 371 rfl rfl, uw_mem 372 rfl rfl, _, rfl, rfl⟩
set_option maxRecDepth 20000 in
theorem kV_Pag_62 : u_CV "UnmarkedPages$Page" 62 6 mRow_at 1 := ⟨mo_Row_at, uw_mem 541 rfl rfl, uw_mem 335 rfl rfl, uw_mem 336 rfl rfl, _, rfl, rfl⟩
set_option maxRecDepth 20000 in
theorem kV_Pth_30 : u_CV "UnmarkedPages$PathReader" 30 6 mRow_size 0 := ⟨mo_Row_size, uw_mem 677 rfl rfl, uw_mem 400 rfl rfl, uw_mem 401 rfl rfl, _, rfl, rfl⟩
set_option maxRecDepth 20000 in
theorem kS_Pth_51 : u_CS "UnmarkedPages$PathReader" 51 mUmp_isNameLetter 1 := ⟨mo_Ump_isNameLetter, Or.inr ⟨"UnmarkedPages", by decide +kernel⟩, uw_mem 425 rfl rfl⟩
set_option maxRecDepth 20000 in
theorem kV_Pth_54 : u_CV "UnmarkedPages$PathReader" 54 6 mRow_add 1 := ⟨mo_Row_add, uw_mem 684 rfl rfl, uw_mem 405 rfl rfl, uw_mem 406 rfl rfl, _, rfl, rfl⟩
set_option maxRecDepth 20000 in
theorem kV_Pth_57 : u_CV "UnmarkedPages$PathReader" 57 6 mRow_put 2 := ⟨mo_Row_put, uw_mem 685 rfl rfl, uw_mem 371 rfl rfl, uw_mem 372 rfl rfl, _, rfl, rfl⟩
set_option maxRecDepth 20000 in
theorem kV_Rea_59 : u_CV "UnmarkedPages$Reader" 59 5 mRea_tell 3 := ⟨mo_Rea_tell, uw_mem 416 rfl rfl, uw_mem 418 rfl rfl, uw_mem 3 rfl rfl, _, rfl, rfl⟩
set_option maxRecDepth 20000 in
theorem kV_Rea_48 : u_CV "UnmarkedPages$Reader" 48 6 mRow_at 1 := ⟨mo_Row_at, uw_mem 403 rfl rfl, uw_mem 335 rfl rfl, uw_mem 336 rfl rfl, _, rfl, rfl⟩
set_option maxRecDepth 20000 in
theorem kV_Rea_114 : u_CV "UnmarkedPages$Reader" 114 6 mRow_put 2 := ⟨mo_Row_put, uw_mem 458 rfl rfl, uw_mem 371 rfl rfl, uw_mem 372 rfl rfl, _, rfl, rfl⟩
set_option maxRecDepth 20000 in
theorem kV_Rea_105 : u_CV "UnmarkedPages$Reader" 105 6 mRow_last 0 := ⟨mo_Row_last, uw_mem 435 rfl rfl, uw_mem 436 rfl rfl, uw_mem 437 rfl rfl, _, rfl, rfl⟩
set_option maxRecDepth 20000 in
theorem kV_Rea_52 : u_CV "UnmarkedPages$Reader" 52 6 mRow_add 1 := ⟨mo_Row_add, uw_mem 404 rfl rfl, uw_mem 405 rfl rfl, uw_mem 406 rfl rfl, _, rfl, rfl⟩
set_option maxRecDepth 20000 in
theorem kV_Rea_136 : u_CV "UnmarkedPages$Reader" 136 6 mRow_removeLast 0 := ⟨mo_Row_removeLast, uw_mem 444 rfl rfl, uw_mem 445 rfl rfl, uw_mem 446 rfl rfl, _, rfl, rfl⟩
set_option maxRecDepth 20000 in
theorem kI_Row_3 : Cond.methodLink "UnmarkedPages$Row" 3 Lib.objectInit ∈ uw_W := uw_mem 78 rfl rfl
set_option maxRecDepth 20000 in
theorem kS_Row_9 : Cond.methodLink "UnmarkedPages$Row" 9 Lib.Math.max.name ∈ uw_W := uw_mem 79 rfl rfl
set_option maxRecDepth 20000 in
theorem kS_Row_25 : Cond.methodLink "UnmarkedPages$Row" 25 Lib.Math.min.name ∈ uw_W := uw_mem 350 rfl rfl
set_option maxRecDepth 20000 in
theorem kV_Sta_46 : u_CV "UnmarkedPages$State" 46 6 mRow_at 1 := ⟨mo_Row_at, uw_mem 334 rfl rfl, uw_mem 335 rfl rfl, uw_mem 336 rfl rfl, _, rfl, rfl⟩
set_option maxRecDepth 20000 in
theorem kV_Sta_50 : u_CV "UnmarkedPages$State" 50 6 mRow_put 2 := ⟨mo_Row_put, uw_mem 370 rfl rfl, uw_mem 371 rfl rfl, uw_mem 372 rfl rfl, _, rfl, rfl⟩
set_option maxRecDepth 20000 in
theorem kV_Sta_54 : u_CV "UnmarkedPages$State" 54 6 mRow_countOf 1 := ⟨mo_Row_countOf, uw_mem 378 rfl rfl, uw_mem 379 rfl rfl, uw_mem 380 rfl rfl, _, rfl, rfl⟩
set_option maxRecDepth 20000 in
theorem kV_Sta_38 : u_CV "UnmarkedPages$State" 38 7 mSta_pageAt 1 := ⟨mo_Sta_pageAt, uw_mem 353 rfl rfl, uw_mem 354 rfl rfl, uw_mem 355 rfl rfl, _, rfl, rfl⟩
set_option maxRecDepth 20000 in
theorem kV_Sta_62 : u_CV "UnmarkedPages$State" 62 6 mRow_size 0 := ⟨mo_Row_size, uw_mem 731 rfl rfl, uw_mem 400 rfl rfl, uw_mem 401 rfl rfl, _, rfl, rfl⟩
set_option maxRecDepth 20000 in
theorem kV_Ump_132 : u_CV "UnmarkedPages" 132 6 mRow_size 0 := ⟨mo_Row_size, uw_mem 626 rfl rfl, uw_mem 400 rfl rfl, uw_mem 401 rfl rfl, _, rfl, rfl⟩
set_option maxRecDepth 20000 in
theorem kV_Ump_135 : u_CV "UnmarkedPages" 135 6 mRow_add 1 := ⟨mo_Row_add, uw_mem 627 rfl rfl, uw_mem 405 rfl rfl, uw_mem 406 rfl rfl, _, rfl, rfl⟩
set_option maxRecDepth 20000 in
theorem kV_Ump_138 : u_CV "UnmarkedPages" 138 6 mRow_clear 0 := ⟨mo_Row_clear, uw_mem 632 rfl rfl, uw_mem 395 rfl rfl, uw_mem 396 rfl rfl, _, rfl, rfl⟩
set_option maxRecDepth 20000 in
theorem kV_Ump_123 : u_CV "UnmarkedPages" 123 7 mSta_hasPage 1 := ⟨mo_Sta_hasPage, uw_mem 610 rfl rfl, uw_mem 611 rfl rfl, uw_mem 612 rfl rfl, _, rfl, rfl⟩
set_option maxRecDepth 20000 in
theorem kV_Ump_158 : u_CV "UnmarkedPages" 158 7 mSta_pageAt 1 := ⟨mo_Sta_pageAt, uw_mem 605 rfl rfl, uw_mem 354 rfl rfl, uw_mem 355 rfl rfl, _, rfl, rfl⟩
set_option maxRecDepth 20000 in
theorem kV_Ump_167 : u_CV "UnmarkedPages" 167 6 mRow_at 1 := ⟨mo_Row_at, uw_mem 653 rfl rfl, uw_mem 335 rfl rfl, uw_mem 336 rfl rfl, _, rfl, rfl⟩
set_option maxRecDepth 20000 in
theorem kV_Ump_101 : u_CV "UnmarkedPages" 101 8 mUmp_codesOf 1 := ⟨mo_Ump_codesOf, uw_mem 490 rfl rfl, uw_mem 492 rfl rfl, uw_mem 13 rfl rfl, _, rfl, rfl⟩
set_option maxRecDepth 20000 in
theorem kV_Ump_171 : u_CV "UnmarkedPages" 171 0 mCod_rowAt 1 := ⟨mo_Cod_rowAt, uw_mem 658 rfl rfl, uw_mem 582 rfl rfl, uw_mem 583 rfl rfl, _, rfl, rfl⟩
set_option maxRecDepth 20000 in
theorem kV_Ump_193 : u_CV "UnmarkedPages" 193 2 mKno_namesIn 1 := ⟨mo_Kno_namesIn, uw_mem 712 rfl rfl, uw_mem 512 rfl rfl, uw_mem 513 rfl rfl, _, rfl, rfl⟩
set_option maxRecDepth 20000 in
theorem kV_Ump_197 : u_CV "UnmarkedPages" 197 1 mFrl_size 0 := ⟨mo_Frl_size, uw_mem 713 rfl rfl, uw_mem 520 rfl rfl, uw_mem 521 rfl rfl, _, rfl, rfl⟩
set_option maxRecDepth 20000 in
theorem kV_Ump_200 : u_CV "UnmarkedPages" 200 1 mFrl_at 1 := ⟨mo_Frl_at, uw_mem 714 rfl rfl, uw_mem 715 rfl rfl, uw_mem 716 rfl rfl, _, rfl, rfl⟩
set_option maxRecDepth 20000 in
theorem kI_Mod_1 : Cond.methodLink "UnmarkedPagesModel" 1 Lib.objectInit ∈ uw_W := uw_mem 741 rfl rfl
set_option maxRecDepth 20000 in
theorem kS_Mod_71 : u_CS "UnmarkedPagesModel" 71 mMod_in 3 := ⟨mo_Mod_in, Or.inl (uw_mem 847 rfl rfl), uw_mem 848 rfl rfl⟩
set_option maxRecDepth 20000 in
theorem kV_Mod_97 : u_CV "UnmarkedPagesModel" 97 9 mMod_box 2 := ⟨mo_Mod_box, uw_mem 882 rfl rfl, uw_mem 884 rfl rfl, uw_mem 29 rfl rfl, _, rfl, rfl⟩
set_option maxRecDepth 20000 in
theorem kV_Mod_101 : u_CV "UnmarkedPagesModel" 101 9 mMod_steps 2 := ⟨mo_Mod_steps, uw_mem 890 rfl rfl, uw_mem 892 rfl rfl, uw_mem 31 rfl rfl, _, rfl, rfl⟩
set_option maxRecDepth 20000 in
theorem kV_Mod_150 : u_CV "UnmarkedPagesModel" 150 9 mMod_codes 2 := ⟨mo_Mod_codes, uw_mem 929 rfl rfl, uw_mem 931 rfl rfl, uw_mem 40 rfl rfl, _, rfl, rfl⟩
set_option maxRecDepth 20000 in
theorem kV_Mod_152 : u_CV "UnmarkedPagesModel" 152 9 mMod_isWord 3 := ⟨mo_Mod_isWord, uw_mem 945 rfl rfl, uw_mem 947 rfl rfl, uw_mem 44 rfl rfl, _, rfl, rfl⟩
set_option maxRecDepth 20000 in
theorem kS_Mod_174 : u_CS "UnmarkedPagesModel" 174 mMod_bitsOf 1 := ⟨mo_Mod_bitsOf, Or.inl (uw_mem 957 rfl rfl), uw_mem 958 rfl rfl⟩
set_option maxRecDepth 20000 in
theorem kV_Mod_188 : u_CV "UnmarkedPagesModel" 188 9 mMod_record 0 := ⟨mo_Mod_record, uw_mem 850 rfl rfl, uw_mem 852 rfl rfl, uw_mem 22 rfl rfl, _, rfl, rfl⟩
set_option maxRecDepth 20000 in
theorem kI_Cod_3 : Cond.methodLink "UnmarkedPages$Codes" 3 Lib.objectInit ∈ uw_W := uw_mem 266 rfl rfl
set_option maxRecDepth 20000 in
theorem kI_Cod_11 : u_CI "UnmarkedPages$Codes" 11 mRow_init 1 := ⟨mo_Row_init, Or.inl (uw_mem 268 rfl rfl), uw_mem 76 rfl rfl, rfl, rfl⟩
set_option maxRecDepth 20000 in
theorem kV_Cod_47 : u_CV "UnmarkedPages$Codes" 47 0 mCod_bitsOfRow 1 := ⟨mo_Cod_bitsOfRow, uw_mem 576 rfl rfl, uw_mem 577 rfl rfl, uw_mem 578 rfl rfl, _, rfl, rfl⟩
set_option maxRecDepth 20000 in
theorem kI_Kno_3 : Cond.methodLink "UnmarkedPages$Known" 3 Lib.objectInit ∈ uw_W := uw_mem 226 rfl rfl
set_option maxRecDepth 20000 in
theorem kI_Kno_17 : u_CI "UnmarkedPages$Known" 17 mFrl_init 1 := ⟨mo_Frl_init, Or.inl (uw_mem 230 rfl rfl), uw_mem 231 rfl rfl, rfl, rfl⟩
set_option maxRecDepth 20000 in
theorem kI_Kno_26 : u_CI "UnmarkedPages$Known" 26 mRow_init 1 := ⟨mo_Row_init, Or.inl (uw_mem 244 rfl rfl), uw_mem 76 rfl rfl, rfl, rfl⟩
set_option maxRecDepth 20000 in
theorem kV_Kno_87 : u_CV "UnmarkedPages$Known" 87 2 mKno_namesIn 1 := ⟨mo_Kno_namesIn, uw_mem 511 rfl rfl, uw_mem 512 rfl rfl, uw_mem 513 rfl rfl, _, rfl, rfl⟩
set_option maxRecDepth 20000 in
theorem kV_Kno_91 : u_CV "UnmarkedPages$Known" 91 1 mFrl_placeOf 1 := ⟨mo_Frl_placeOf, uw_mem 515 rfl rfl, uw_mem 516 rfl rfl, uw_mem 517 rfl rfl, _, rfl, rfl⟩
set_option maxRecDepth 20000 in
theorem kV_Kno_95 : u_CV "UnmarkedPages$Known" 95 1 mFrl_size 0 := ⟨mo_Frl_size, uw_mem 519 rfl rfl, uw_mem 520 rfl rfl, uw_mem 521 rfl rfl, _, rfl, rfl⟩
set_option maxRecDepth 20000 in
theorem kV_Kno_96 : u_CV "UnmarkedPages$Known" 96 6 mRow_add 1 := ⟨mo_Row_add, uw_mem 523 rfl rfl, uw_mem 405 rfl rfl, uw_mem 406 rfl rfl, _, rfl, rfl⟩
set_option maxRecDepth 20000 in
theorem kV_Kno_99 : u_CV "UnmarkedPages$Known" 99 1 mFrl_meet 1 := ⟨mo_Frl_meet, uw_mem 524 rfl rfl, uw_mem 525 rfl rfl, uw_mem 526 rfl rfl, _, rfl, rfl⟩
set_option maxRecDepth 20000 in
theorem kV_Kno_126 : u_CV "UnmarkedPages$Known" 126 2 mKno_valueOf 2 := ⟨mo_Kno_valueOf, uw_mem 551 rfl rfl, uw_mem 552 rfl rfl, uw_mem 553 rfl rfl, _, rfl, rfl⟩
set_option maxRecDepth 20000 in
theorem kS_Kno_129 : Cond.methodLink "UnmarkedPages$Known" 129 Lib.Math.max.name ∈ uw_W := uw_mem 555 rfl rfl
set_option maxRecDepth 20000 in
theorem kV_Kno_106 : u_CV "UnmarkedPages$Known" 106 6 mRow_put 2 := ⟨mo_Row_put, uw_mem 542 rfl rfl, uw_mem 371 rfl rfl, uw_mem 372 rfl rfl, _, rfl, rfl⟩
set_option maxRecDepth 20000 in
theorem kI_Pag_3 : Cond.methodLink "UnmarkedPages$Page" 3 Lib.objectInit ∈ uw_W := uw_mem 101 rfl rfl
set_option maxRecDepth 20000 in
theorem kI_Pag_11 : u_CI "UnmarkedPages$Page" 11 mRow_init 1 := ⟨mo_Row_init, Or.inl (uw_mem 103 rfl rfl), uw_mem 76 rfl rfl, rfl, rfl⟩
set_option maxRecDepth 20000 in
theorem kV_Pag_44 : u_CV "UnmarkedPages$Page" 44 6 mRow_become 1 := ⟨mo_Row_become, uw_mem 365 rfl rfl, uw_mem 347 rfl rfl, uw_mem 348 rfl rfl, _, rfl, rfl⟩
set_option maxRecDepth 20000 in
theorem kV_Pag_66 : u_CV "UnmarkedPages$Page" 66 3 mPag_keyOfNote 2 := ⟨mo_Pag_keyOfNote, uw_mem 537 rfl rfl, uw_mem 538 rfl rfl, uw_mem 539 rfl rfl, _, rfl, rfl⟩
set_option maxRecDepth 20000 in
theorem kI_Pth_3 : Cond.methodLink "UnmarkedPages$PathReader" 3 Lib.objectInit ∈ uw_W := uw_mem 181 rfl rfl
set_option maxRecDepth 20000 in
theorem kI_Pth_11 : u_CI "UnmarkedPages$PathReader" 11 mRow_init 1 := ⟨mo_Row_init, Or.inl (uw_mem 183 rfl rfl), uw_mem 76 rfl rfl, rfl, rfl⟩
set_option maxRecDepth 20000 in
theorem kV_Pth_23 : u_CV "UnmarkedPages$PathReader" 23 6 mRow_clear 0 := ⟨mo_Row_clear, uw_mem 676 rfl rfl, uw_mem 395 rfl rfl, uw_mem 396 rfl rfl, _, rfl, rfl⟩
set_option maxRecDepth 20000 in
theorem kV_Pth_34 : u_CV "UnmarkedPages$PathReader" 34 6 mRow_at 1 := ⟨mo_Row_at, uw_mem 678 rfl rfl, uw_mem 335 rfl rfl, uw_mem 336 rfl rfl, _, rfl, rfl⟩
set_option maxRecDepth 20000 in
theorem kV_Pth_38 : u_CV "UnmarkedPages$PathReader" 38 4 mPth_takes 1 := ⟨mo_Pth_takes, uw_mem 679 rfl rfl, uw_mem 681 rfl rfl, uw_mem 20 rfl rfl, _, rfl, rfl⟩
set_option maxRecDepth 20000 in
theorem kV_Pth_47 : u_CV "UnmarkedPages$PathReader" 47 3 mPag_boxInside 3 := ⟨mo_Pag_boxInside, uw_mem 690 rfl rfl, uw_mem 691 rfl rfl, uw_mem 692 rfl rfl, _, rfl, rfl⟩
set_option maxRecDepth 20000 in
theorem kV_Rea_41 : u_CV "UnmarkedPages$Reader" 41 6 mRow_size 0 := ⟨mo_Row_size, uw_mem 399 rfl rfl, uw_mem 400 rfl rfl, uw_mem 401 rfl rfl, _, rfl, rfl⟩
set_option maxRecDepth 20000 in
theorem kV_Rea_90 : u_CV "UnmarkedPages$Reader" 90 5 mRea_latestName 0 := ⟨mo_Rea_latestName, uw_mem 431 rfl rfl, uw_mem 433 rfl rfl, uw_mem 6 rfl rfl, _, rfl, rfl⟩
set_option maxRecDepth 20000 in
theorem kV_Rea_93 : u_CV "UnmarkedPages$Reader" 93 7 mSta_ends 2 := ⟨mo_Sta_ends, uw_mem 439 rfl rfl, uw_mem 331 rfl rfl, uw_mem 332 rfl rfl, _, rfl, rfl⟩
set_option maxRecDepth 20000 in
theorem kV_Rea_99 : u_CV "UnmarkedPages$Reader" 99 5 mRea_close 1 := ⟨mo_Rea_close, uw_mem 440 rfl rfl, uw_mem 442 rfl rfl, uw_mem 7 rfl rfl, _, rfl, rfl⟩
set_option maxRecDepth 20000 in
theorem kV_Rea_108 : u_CV "UnmarkedPages$Reader" 108 3 mPag_addBox 3 := ⟨mo_Pag_addBox, uw_mem 448 rfl rfl, uw_mem 449 rfl rfl, uw_mem 450 rfl rfl, _, rfl, rfl⟩
set_option maxRecDepth 20000 in
theorem kV_Rea_111 : u_CV "UnmarkedPages$Reader" 111 6 mRow_fill 1 := ⟨mo_Row_fill, uw_mem 453 rfl rfl, uw_mem 205 rfl rfl, uw_mem 206 rfl rfl, _, rfl, rfl⟩
set_option maxRecDepth 20000 in
theorem kV_Rea_63 : u_CV "UnmarkedPages$Reader" 63 5 mRea_expect 3 := ⟨mo_Rea_expect, uw_mem 412 rfl rfl, uw_mem 414 rfl rfl, uw_mem 2 rfl rfl, _, rfl, rfl⟩
set_option maxRecDepth 20000 in
theorem kV_Rea_117 : u_CV "UnmarkedPages$Reader" 117 3 mPag_addWord 2 := ⟨mo_Pag_addWord, uw_mem 463 rfl rfl, uw_mem 464 rfl rfl, uw_mem 465 rfl rfl, _, rfl, rfl⟩
set_option maxRecDepth 20000 in
theorem kV_Rea_123 : u_CV "UnmarkedPages$Reader" 123 3 mPag_lengthenWord 0 := ⟨mo_Pag_lengthenWord, uw_mem 467 rfl rfl, uw_mem 468 rfl rfl, uw_mem 469 rfl rfl, _, rfl, rfl⟩
set_option maxRecDepth 20000 in
theorem kS_Ump_67 : u_CS "UnmarkedPages" 67 mUmp_isName 1 := ⟨mo_Ump_isName, Or.inl (uw_mem 327 rfl rfl), uw_mem 328 rfl rfl⟩
set_option maxRecDepth 20000 in
theorem kV_Ump_203 : u_CV "UnmarkedPages" 203 2 mKno_valueOf 2 := ⟨mo_Kno_valueOf, uw_mem 722 rfl rfl, uw_mem 552 rfl rfl, uw_mem 553 rfl rfl, _, rfl, rfl⟩
set_option maxRecDepth 20000 in
theorem kV_Mod_107 : u_CV "UnmarkedPagesModel" 107 9 mMod_isAt 3 := ⟨mo_Mod_isAt, uw_mem 870 rfl rfl, uw_mem 872 rfl rfl, uw_mem 26 rfl rfl, _, rfl, rfl⟩
set_option maxRecDepth 20000 in
theorem kV_Mod_110 : u_CV "UnmarkedPagesModel" 110 9 mMod_fails 3 := ⟨mo_Mod_fails, uw_mem 878 rfl rfl, uw_mem 880 rfl rfl, uw_mem 28 rfl rfl, _, rfl, rfl⟩
set_option maxRecDepth 20000 in
theorem kV_Mod_113 : u_CV "UnmarkedPagesModel" 113 9 mMod_boxes 3 := ⟨mo_Mod_boxes, uw_mem 886 rfl rfl, uw_mem 888 rfl rfl, uw_mem 30 rfl rfl, _, rfl, rfl⟩
set_option maxRecDepth 20000 in
theorem kS_Mod_116 : u_CS "UnmarkedPagesModel" 116 mMod_rankOf 3 := ⟨mo_Mod_rankOf, Or.inl (uw_mem 910 rfl rfl), uw_mem 911 rfl rfl⟩
set_option maxRecDepth 20000 in
theorem kV_Mod_120 : u_CV "UnmarkedPagesModel" 120 9 mMod_implies 2 := ⟨mo_Mod_implies, uw_mem 898 rfl rfl, uw_mem 900 rfl rfl, uw_mem 33 rfl rfl, _, rfl, rfl⟩
set_option maxRecDepth 20000 in
theorem kV_Mod_155 : u_CV "UnmarkedPagesModel" 155 9 mMod_codesName 1 := ⟨mo_Mod_codesName, uw_mem 933 rfl rfl, uw_mem 935 rfl rfl, uw_mem 41 rfl rfl, _, rfl, rfl⟩
set_option maxRecDepth 20000 in
theorem kV_Mod_159 : u_CV "UnmarkedPagesModel" 159 9 mMod_codesNotes 1 := ⟨mo_Mod_codesNotes, uw_mem 937 rfl rfl, uw_mem 939 rfl rfl, uw_mem 42 rfl rfl, _, rfl, rfl⟩
set_option maxRecDepth 20000 in
theorem kV_Mod_162 : u_CV "UnmarkedPagesModel" 162 9 mMod_codesWord 2 := ⟨mo_Mod_codesWord, uw_mem 941 rfl rfl, uw_mem 943 rfl rfl, uw_mem 43 rfl rfl, _, rfl, rfl⟩
set_option maxRecDepth 20000 in
theorem kV_Mod_177 : u_CV "UnmarkedPagesModel" 177 9 mMod_rowBits 1 := ⟨mo_Mod_rowBits, uw_mem 953 rfl rfl, uw_mem 955 rfl rfl, uw_mem 46 rfl rfl, _, rfl, rfl⟩
set_option maxRecDepth 20000 in
theorem kS_Mod_184 : u_CS "UnmarkedPagesModel" 184 mMod_noName 1 := ⟨mo_Mod_noName, Or.inl (uw_mem 844 rfl rfl), uw_mem 845 rfl rfl⟩
set_option maxRecDepth 20000 in
theorem kV_Mod_191 : u_CV "UnmarkedPagesModel" 191 9 mMod_rules 0 := ⟨mo_Mod_rules, uw_mem 854 rfl rfl, uw_mem 856 rfl rfl, uw_mem 23 rfl rfl, _, rfl, rfl⟩
set_option maxRecDepth 20000 in
theorem kV_Mod_200 : u_CV "UnmarkedPagesModel" 200 9 mMod_no 1 := ⟨mo_Mod_no, uw_mem 968 rfl rfl, uw_mem 970 rfl rfl, uw_mem 47 rfl rfl, _, rfl, rfl⟩
set_option maxRecDepth 20000 in
theorem kV_Kno_103 : u_CV "UnmarkedPages$Known" 103 3 mPag_keySet 1 := ⟨mo_Pag_keySet, uw_mem 533 rfl rfl, uw_mem 534 rfl rfl, uw_mem 535 rfl rfl, _, rfl, rfl⟩
set_option maxRecDepth 20000 in
theorem kV_Kno_110 : u_CV "UnmarkedPages$Known" 110 3 mPag_valueOfKey 2 := ⟨mo_Pag_valueOfKey, uw_mem 543 rfl rfl, uw_mem 544 rfl rfl, uw_mem 545 rfl rfl, _, rfl, rfl⟩
set_option maxRecDepth 20000 in
theorem kV_Kno_114 : u_CV "UnmarkedPages$Known" 114 2 mKno_takeValue 4 := ⟨mo_Kno_takeValue, uw_mem 547 rfl rfl, uw_mem 549 rfl rfl, uw_mem 16 rfl rfl, _, rfl, rfl⟩
set_option maxRecDepth 20000 in
theorem kS_Kno_118 : u_CS "UnmarkedPages$Known" 118 mInt_bitCount 1 := ⟨mo_Int_bitCount, Or.inl (uw_mem 556 rfl rfl), uw_mem 557 rfl rfl⟩
set_option maxRecDepth 20000 in
theorem kV_Kno_123 : u_CV "UnmarkedPages$Known" 123 3 mPag_orderOfKeys 2 := ⟨mo_Pag_orderOfKeys, uw_mem 562 rfl rfl, uw_mem 563 rfl rfl, uw_mem 564 rfl rfl, _, rfl, rfl⟩
set_option maxRecDepth 20000 in
theorem kI_Rea_3 : Cond.methodLink "UnmarkedPages$Reader" 3 Lib.objectInit ∈ uw_W := uw_mem 95 rfl rfl
set_option maxRecDepth 20000 in
theorem kI_Rea_11 : u_CI "UnmarkedPages$Reader" 11 mPag_init 0 := ⟨mo_Pag_init, Or.inr ⟨"UnmarkedPages", by decide +kernel⟩, uw_mem 99 rfl rfl, rfl, rfl⟩
set_option maxRecDepth 20000 in
theorem kI_Rea_24 : u_CI "UnmarkedPages$Reader" 24 mRow_init 1 := ⟨mo_Row_init, Or.inl (uw_mem 149 rfl rfl), uw_mem 76 rfl rfl, rfl, rfl⟩
set_option maxRecDepth 20000 in
theorem kS_Rea_83 : u_CS "UnmarkedPages$Reader" 83 mUmp_isNameLetter 1 := ⟨mo_Ump_isNameLetter, Or.inr ⟨"UnmarkedPages", by decide +kernel⟩, uw_mem 425 rfl rfl⟩
set_option maxRecDepth 20000 in
theorem kV_Rea_87 : u_CV "UnmarkedPages$Reader" 87 5 mRea_openBox 3 := ⟨mo_Rea_openBox, uw_mem 427 rfl rfl, uw_mem 429 rfl rfl, uw_mem 5 rfl rfl, _, rfl, rfl⟩
set_option maxRecDepth 20000 in
theorem kV_Rea_126 : u_CV "UnmarkedPages$Reader" 126 5 mRea_isEndedByClosing 2 := ⟨mo_Rea_isEndedByClosing, uw_mem 478 rfl rfl, uw_mem 480 rfl rfl, uw_mem 11 rfl rfl, _, rfl, rfl⟩
set_option maxRecDepth 20000 in
theorem kI_Sta_3 : Cond.methodLink "UnmarkedPages$State" 3 Lib.objectInit ∈ uw_W := uw_mem 199 rfl rfl
set_option maxRecDepth 20000 in
theorem kI_Sta_11 : u_CI "UnmarkedPages$State" 11 mRow_init 1 := ⟨mo_Row_init, Or.inl (uw_mem 201 rfl rfl), uw_mem 76 rfl rfl, rfl, rfl⟩
set_option maxRecDepth 20000 in
theorem kV_Sta_26 : u_CV "UnmarkedPages$State" 26 6 mRow_fill 1 := ⟨mo_Row_fill, uw_mem 204 rfl rfl, uw_mem 205 rfl rfl, uw_mem 206 rfl rfl, _, rfl, rfl⟩
set_option maxRecDepth 20000 in
theorem kI_Sta_29 : u_CI "UnmarkedPages$State" 29 mPag_init 0 := ⟨mo_Pag_init, Or.inr ⟨"UnmarkedPages", by decide +kernel⟩, uw_mem 99 rfl rfl, rfl, rfl⟩
set_option maxRecDepth 20000 in
theorem kV_Sta_57 : u_CV "UnmarkedPages$State" 57 3 mPag_become 1 := ⟨mo_Pag_become, uw_mem 361 rfl rfl, uw_mem 362 rfl rfl, uw_mem 363 rfl rfl, _, rfl, rfl⟩
set_option maxRecDepth 20000 in
theorem kV_Ump_117 : u_CV "UnmarkedPages" 117 0 mCod_bitsOfAll 0 := ⟨mo_Cod_bitsOfAll, uw_mem 572 rfl rfl, uw_mem 573 rfl rfl, uw_mem 574 rfl rfl, _, rfl, rfl⟩
set_option maxRecDepth 20000 in
theorem kV_Ump_175 : u_CV "UnmarkedPages" 175 0 mCod_bitsOfRow 1 := ⟨mo_Cod_bitsOfRow, uw_mem 663 rfl rfl, uw_mem 577 rfl rfl, uw_mem 578 rfl rfl, _, rfl, rfl⟩
set_option maxRecDepth 20000 in
theorem kV_Ump_223 : u_CV "UnmarkedPages" 223 6 mRow_countOf 1 := ⟨mo_Row_countOf, uw_mem 698 rfl rfl, uw_mem 379 rfl rfl, uw_mem 380 rfl rfl, _, rfl, rfl⟩
set_option maxRecDepth 20000 in
theorem kV_Ump_229 : u_CV "UnmarkedPages" 229 3 mPag_keySet 1 := ⟨mo_Pag_keySet, uw_mem 699 rfl rfl, uw_mem 534 rfl rfl, uw_mem 535 rfl rfl, _, rfl, rfl⟩
set_option maxRecDepth 20000 in
theorem kV_Ump_232 : u_CV "UnmarkedPages" 232 6 mRow_placeOf 1 := ⟨mo_Row_placeOf, uw_mem 700 rfl rfl, uw_mem 701 rfl rfl, uw_mem 702 rfl rfl, _, rfl, rfl⟩
set_option maxRecDepth 20000 in
theorem kV_Ump_238 : u_CV "UnmarkedPages" 238 4 mPth_partCount 0 := ⟨mo_Pth_partCount, uw_mem 704 rfl rfl, uw_mem 705 rfl rfl, uw_mem 706 rfl rfl, _, rfl, rfl⟩
set_option maxRecDepth 20000 in
theorem kV_Mod_127 : u_CV "UnmarkedPagesModel" 127 9 mMod_readNotes 2 := ⟨mo_Mod_readNotes, uw_mem 906 rfl rfl, uw_mem 908 rfl rfl, uw_mem 35 rfl rfl, _, rfl, rfl⟩
set_option maxRecDepth 20000 in
theorem kV_Kno_44 : u_CV "UnmarkedPages$Known" 44 0 mCod_clear 0 := ⟨mo_Cod_clear, uw_mem 499 rfl rfl, uw_mem 500 rfl rfl, uw_mem 501 rfl rfl, _, rfl, rfl⟩
set_option maxRecDepth 20000 in
theorem kV_Kno_53 : u_CV "UnmarkedPages$Known" 53 6 mRow_become 1 := ⟨mo_Row_become, uw_mem 504 rfl rfl, uw_mem 347 rfl rfl, uw_mem 348 rfl rfl, _, rfl, rfl⟩
set_option maxRecDepth 20000 in
theorem kV_Kno_60 : u_CV "UnmarkedPages$Known" 60 6 mRow_size 0 := ⟨mo_Row_size, uw_mem 505 rfl rfl, uw_mem 400 rfl rfl, uw_mem 401 rfl rfl, _, rfl, rfl⟩
set_option maxRecDepth 20000 in
theorem kV_Kno_66 : u_CV "UnmarkedPages$Known" 66 2 mKno_takeName 3 := ⟨mo_Kno_takeName, uw_mem 506 rfl rfl, uw_mem 508 rfl rfl, uw_mem 14 rfl rfl, _, rfl, rfl⟩
set_option maxRecDepth 20000 in
theorem kV_Kno_73 : u_CV "UnmarkedPages$Known" 73 2 mKno_takeNotes 3 := ⟨mo_Kno_takeNotes, uw_mem 529 rfl rfl, uw_mem 531 rfl rfl, uw_mem 15 rfl rfl, _, rfl, rfl⟩
set_option maxRecDepth 20000 in
theorem kV_Kno_81 : u_CV "UnmarkedPages$Known" 81 2 mKno_takeWord 3 := ⟨mo_Kno_takeWord, uw_mem 566 rfl rfl, uw_mem 568 rfl rfl, uw_mem 17 rfl rfl, _, rfl, rfl⟩
set_option maxRecDepth 20000 in
theorem kV_Rea_67 : u_CV "UnmarkedPages$Reader" 67 5 mRea_takeBehindMark 3 := ⟨mo_Rea_takeBehindMark, uw_mem 420 rfl rfl, uw_mem 422 rfl rfl, uw_mem 4 rfl rfl, _, rfl, rfl⟩
set_option maxRecDepth 20000 in
theorem kV_Rea_70 : u_CV "UnmarkedPages$Reader" 70 5 mRea_takeKey 2 := ⟨mo_Rea_takeKey, uw_mem 454 rfl rfl, uw_mem 456 rfl rfl, uw_mem 8 rfl rfl, _, rfl, rfl⟩
set_option maxRecDepth 20000 in
theorem kV_Rea_74 : u_CV "UnmarkedPages$Reader" 74 5 mRea_takeInBox 2 := ⟨mo_Rea_takeInBox, uw_mem 459 rfl rfl, uw_mem 461 rfl rfl, uw_mem 9 rfl rfl, _, rfl, rfl⟩
set_option maxRecDepth 20000 in
theorem kV_Rea_77 : u_CV "UnmarkedPages$Reader" 77 5 mRea_takeClosingName 3 := ⟨mo_Rea_takeClosingName, uw_mem 474 rfl rfl, uw_mem 476 rfl rfl, uw_mem 10 rfl rfl, _, rfl, rfl⟩
set_option maxRecDepth 20000 in
theorem kV_Rea_80 : u_CV "UnmarkedPages$Reader" 80 5 mRea_takeClosingEnd 2 := ⟨mo_Rea_takeClosingEnd, uw_mem 482 rfl rfl, uw_mem 484 rfl rfl, uw_mem 12 rfl rfl, _, rfl, rfl⟩
set_option maxRecDepth 20000 in
theorem kV_Sta_30 : u_CV "UnmarkedPages$State" 30 6 mRow_become 1 := ⟨mo_Row_become, uw_mem 346 rfl rfl, uw_mem 347 rfl rfl, uw_mem 348 rfl rfl, _, rfl, rfl⟩
set_option maxRecDepth 20000 in
theorem kV_Sta_42 : u_CV "UnmarkedPages$State" 42 7 mSta_addPage 1 := ⟨mo_Sta_addPage, uw_mem 357 rfl rfl, uw_mem 358 rfl rfl, uw_mem 359 rfl rfl, _, rfl, rfl⟩
set_option maxRecDepth 20000 in
theorem kI_Ump_1 : Cond.methodLink "UnmarkedPages" 1 Lib.objectInit ∈ uw_W := uw_mem 70 rfl rfl
set_option maxRecDepth 20000 in
theorem kI_Ump_11 : u_CI "UnmarkedPages" 11 mRow_init 1 := ⟨mo_Row_init, Or.inl (uw_mem 75 rfl rfl), uw_mem 76 rfl rfl, rfl, rfl⟩
set_option maxRecDepth 20000 in
theorem kI_Ump_20 : u_CI "UnmarkedPages" 20 mRea_init 0 := ⟨mo_Rea_init, Or.inr ⟨"UnmarkedPages", by decide +kernel⟩, uw_mem 93 rfl rfl, rfl, rfl⟩
set_option maxRecDepth 20000 in
theorem kI_Ump_27 : u_CI "UnmarkedPages" 27 mPth_init 0 := ⟨mo_Pth_init, Or.inr ⟨"UnmarkedPages", by decide +kernel⟩, uw_mem 179 rfl rfl, rfl, rfl⟩
set_option maxRecDepth 20000 in
theorem kI_Ump_34 : u_CI "UnmarkedPages" 34 mSta_init 0 := ⟨mo_Sta_init, Or.inl (uw_mem 196 rfl rfl), uw_mem 197 rfl rfl, rfl, rfl⟩
set_option maxRecDepth 20000 in
theorem kI_Ump_48 : u_CI "UnmarkedPages" 48 mKno_init 0 := ⟨mo_Kno_init, Or.inl (uw_mem 223 rfl rfl), uw_mem 224 rfl rfl, rfl, rfl⟩
set_option maxRecDepth 20000 in
theorem kI_Ump_62 : u_CI "UnmarkedPages" 62 mCod_init 0 := ⟨mo_Cod_init, Or.inr ⟨"UnmarkedPages", by decide +kernel⟩, uw_mem 264 rfl rfl, rfl, rfl⟩
set_option maxRecDepth 20000 in
theorem kV_Ump_181 : u_CV "UnmarkedPages" 181 4 mPth_readFault 1 := ⟨mo_Pth_readFault, uw_mem 672 rfl rfl, uw_mem 673 rfl rfl, uw_mem 674 rfl rfl, _, rfl, rfl⟩
set_option maxRecDepth 20000 in
theorem kV_Ump_185 : u_CV "UnmarkedPages" 185 4 mPth_boxIn 1 := ⟨mo_Pth_boxIn, uw_mem 686 rfl rfl, uw_mem 687 rfl rfl, uw_mem 688 rfl rfl, _, rfl, rfl⟩
set_option maxRecDepth 20000 in
theorem kV_Ump_189 : u_CV "UnmarkedPages" 189 8 mUmp_toldOfBox 3 := ⟨mo_Ump_toldOfBox, uw_mem 694 rfl rfl, uw_mem 696 rfl rfl, uw_mem 21 rfl rfl, _, rfl, rfl⟩
set_option maxRecDepth 20000 in
theorem kV_Ump_82 : u_CV "UnmarkedPages" 82 7 mSta_ruleCount 0 := ⟨mo_Sta_ruleCount, uw_mem 374 rfl rfl, uw_mem 375 rfl rfl, uw_mem 376 rfl rfl, _, rfl, rfl⟩
set_option maxRecDepth 20000 in
theorem kV_Ump_126 : u_CV "UnmarkedPages" 126 8 mUmp_bitsOfAllPages 0 := ⟨mo_Ump_bitsOfAllPages, uw_mem 614 rfl rfl, uw_mem 616 rfl rfl, uw_mem 19 rfl rfl, _, rfl, rfl⟩
set_option maxRecDepth 20000 in
theorem kV_Ump_207 : u_CV "UnmarkedPages" 207 7 mSta_letterCount 0 := ⟨mo_Sta_letterCount, uw_mem 727 rfl rfl, uw_mem 728 rfl rfl, uw_mem 729 rfl rfl, _, rfl, rfl⟩
set_option maxRecDepth 20000 in
theorem kV_Ump_214 : u_CV "UnmarkedPages" 214 7 mSta_stepCount 1 := ⟨mo_Sta_stepCount, uw_mem 732 rfl rfl, uw_mem 733 rfl rfl, uw_mem 734 rfl rfl, _, rfl, rfl⟩
set_option maxRecDepth 20000 in
theorem kV_Mod_130 : u_CV "UnmarkedPagesModel" 130 9 mMod_readWord 1 := ⟨mo_Mod_readWord, uw_mem 874 rfl rfl, uw_mem 876 rfl rfl, uw_mem 27 rfl rfl, _, rfl, rfl⟩
set_option maxRecDepth 20000 in
theorem kV_Mod_134 : u_CV "UnmarkedPagesModel" 134 9 mMod_closes 1 := ⟨mo_Mod_closes, uw_mem 894 rfl rfl, uw_mem 896 rfl rfl, uw_mem 32 rfl rfl, _, rfl, rfl⟩
set_option maxRecDepth 20000 in
theorem kV_Mod_137 : u_CV "UnmarkedPagesModel" 137 9 mMod_opens 1 := ⟨mo_Mod_opens, uw_mem 902 rfl rfl, uw_mem 904 rfl rfl, uw_mem 34 rfl rfl, _, rfl, rfl⟩
set_option maxRecDepth 20000 in
theorem kV_Rea_34 : u_CV "UnmarkedPages$Reader" 34 3 mPag_clear 0 := ⟨mo_Pag_clear, uw_mem 390 rfl rfl, uw_mem 391 rfl rfl, uw_mem 392 rfl rfl, _, rfl, rfl⟩
set_option maxRecDepth 20000 in
theorem kV_Rea_37 : u_CV "UnmarkedPages$Reader" 37 6 mRow_clear 0 := ⟨mo_Row_clear, uw_mem 398 rfl rfl, uw_mem 395 rfl rfl, uw_mem 396 rfl rfl, _, rfl, rfl⟩
set_option maxRecDepth 20000 in
theorem kV_Rea_55 : u_CV "UnmarkedPages$Reader" 55 5 mRea_take 3 := ⟨mo_Rea_take, uw_mem 408 rfl rfl, uw_mem 410 rfl rfl, uw_mem 1 rfl rfl, _, rfl, rfl⟩
set_option maxRecDepth 20000 in
theorem kV_Ump_150 : u_CV "UnmarkedPages" 150 7 mSta_become 1 := ⟨mo_Sta_become, uw_mem 342 rfl rfl, uw_mem 343 rfl rfl, uw_mem 344 rfl rfl, _, rfl, rfl⟩
set_option maxRecDepth 20000 in
theorem kV_Ump_178 : u_CV "UnmarkedPages" 178 2 mKno_forget 0 := ⟨mo_Kno_forget, uw_mem 597 rfl rfl, uw_mem 598 rfl rfl, uw_mem 599 rfl rfl, _, rfl, rfl⟩
set_option maxRecDepth 20000 in
theorem kV_Ump_113 : u_CV "UnmarkedPages" 113 2 mKno_take 2 := ⟨mo_Kno_take, uw_mem 495 rfl rfl, uw_mem 496 rfl rfl, uw_mem 497 rfl rfl, _, rfl, rfl⟩
set_option maxRecDepth 20000 in
theorem kV_Mod_143 : u_CV "UnmarkedPagesModel" 143 9 mMod_isPage 0 := ⟨mo_Mod_isPage, uw_mem 866 rfl rfl, uw_mem 868 rfl rfl, uw_mem 25 rfl rfl, _, rfl, rfl⟩
set_option maxRecDepth 20000 in
theorem kV_Mod_194 : u_CV "UnmarkedPagesModel" 194 9 mMod_takesText 0 := ⟨mo_Mod_takesText, uw_mem 862 rfl rfl, uw_mem 864 rfl rfl, uw_mem 24 rfl rfl, _, rfl, rfl⟩
set_option maxRecDepth 20000 in
theorem kV_Ump_71 : u_CV "UnmarkedPages" 71 7 mSta_ends 2 := ⟨mo_Sta_ends, uw_mem 330 rfl rfl, uw_mem 331 rfl rfl, uw_mem 332 rfl rfl, _, rfl, rfl⟩
set_option maxRecDepth 20000 in
theorem kV_Ump_75 : u_CV "UnmarkedPages" 75 8 mUmp_recordState 0 := ⟨mo_Ump_recordState, uw_mem 338 rfl rfl, uw_mem 340 rfl rfl, uw_mem 0 rfl rfl, _, rfl, rfl⟩
set_option maxRecDepth 20000 in
theorem kV_Ump_78 : u_CV "UnmarkedPages" 78 7 mSta_setEnds 3 := ⟨mo_Sta_setEnds, uw_mem 366 rfl rfl, uw_mem 367 rfl rfl, uw_mem 368 rfl rfl, _, rfl, rfl⟩
set_option maxRecDepth 20000 in
theorem kV_Ump_86 : u_CV "UnmarkedPages" 86 5 mRea_read 2 := ⟨mo_Rea_read, uw_mem 386 rfl rfl, uw_mem 387 rfl rfl, uw_mem 388 rfl rfl, _, rfl, rfl⟩
set_option maxRecDepth 20000 in
theorem kV_Ump_90 : u_CV "UnmarkedPages" 90 5 mRea_hasFault 0 := ⟨mo_Rea_hasFault, uw_mem 486 rfl rfl, uw_mem 487 rfl rfl, uw_mem 488 rfl rfl, _, rfl, rfl⟩
set_option maxRecDepth 20000 in
theorem kV_Ump_109 : u_CV "UnmarkedPages" 109 7 mSta_addPage 1 := ⟨mo_Sta_addPage, uw_mem 494 rfl rfl, uw_mem 358 rfl rfl, uw_mem 359 rfl rfl, _, rfl, rfl⟩
set_option maxRecDepth 20000 in
theorem kV_Ump_120 : u_CV "UnmarkedPages" 120 8 mUmp_packAnew 0 := ⟨mo_Ump_packAnew, uw_mem 593 rfl rfl, uw_mem 595 rfl rfl, uw_mem 18 rfl rfl, _, rfl, rfl⟩
set_option maxRecDepth 20000 in
theorem kV_Ump_129 : u_CV "UnmarkedPages" 129 7 mSta_bringToFront 1 := ⟨mo_Sta_bringToFront, uw_mem 618 rfl rfl, uw_mem 619 rfl rfl, uw_mem 620 rfl rfl, _, rfl, rfl⟩
set_option maxRecDepth 20000 in
theorem kV_Mod_165 : u_CV "UnmarkedPagesModel" 165 9 mMod_forgets 0 := ⟨mo_Mod_forgets, uw_mem 917 rfl rfl, uw_mem 919 rfl rfl, uw_mem 37 rfl rfl, _, rfl, rfl⟩
set_option maxRecDepth 20000 in
theorem kV_Mod_168 : u_CV "UnmarkedPagesModel" 168 9 mMod_takesPage 1 := ⟨mo_Mod_takesPage, uw_mem 921 rfl rfl, uw_mem 923 rfl rfl, uw_mem 38 rfl rfl, _, rfl, rfl⟩
set_option maxRecDepth 20000 in
theorem kV_Mod_171 : u_CV "UnmarkedPagesModel" 171 9 mMod_packs 0 := ⟨mo_Mod_packs, uw_mem 925 rfl rfl, uw_mem 927 rfl rfl, uw_mem 39 rfl rfl, _, rfl, rfl⟩
set_option maxRecDepth 20000 in
theorem kV_Mod_180 : u_CV "UnmarkedPagesModel" 180 9 mMod_pageBits 0 := ⟨mo_Mod_pageBits, uw_mem 949 rfl rfl, uw_mem 951 rfl rfl, uw_mem 45 rfl rfl, _, rfl, rfl⟩
set_option maxRecDepth 20000 in
theorem kV_Mod_210 : u_CV "UnmarkedPagesModel" 210 9 mMod_partsOfText 0 := ⟨mo_Mod_partsOfText, uw_mem 1020 rfl rfl, uw_mem 1022 rfl rfl, uw_mem 49 rfl rfl, _, rfl, rfl⟩
set_option maxRecDepth 20000 in
theorem kV_Mod_213 : u_CV "UnmarkedPagesModel" 213 9 mMod_inner 3 := ⟨mo_Mod_inner, uw_mem 1024 rfl rfl, uw_mem 1026 rfl rfl, uw_mem 50 rfl rfl, _, rfl, rfl⟩
set_option maxRecDepth 20000 in
theorem kV_Mod_197 : u_CV "UnmarkedPagesModel" 197 9 mMod_packsUpTo 1 := ⟨mo_Mod_packsUpTo, uw_mem 913 rfl rfl, uw_mem 915 rfl rfl, uw_mem 36 rfl rfl, _, rfl, rfl⟩
set_option maxRecDepth 20000 in
theorem kV_Mod_203 : u_CV "UnmarkedPagesModel" 203 9 mMod_allBits 0 := ⟨mo_Mod_allBits, uw_mem 972 rfl rfl, uw_mem 974 rfl rfl, uw_mem 48 rfl rfl, _, rfl, rfl⟩
set_option maxRecDepth 20000 in
theorem kV_Mod_216 : u_CV "UnmarkedPagesModel" 216 9 mMod_overPages 1 := ⟨mo_Mod_overPages, uw_mem 1040 rfl rfl, uw_mem 1042 rfl rfl, uw_mem 51 rfl rfl, _, rfl, rfl⟩
set_option maxRecDepth 20000 in
theorem kI_Law_9 : u_CI "UnmarkedPagesLaw" 9 mUmp_init 0 := ⟨mo_Ump_init, Or.inl (uw_mem 67 rfl rfl), uw_mem 68 rfl rfl, rfl, rfl⟩
set_option maxRecDepth 20000 in
theorem kI_Law_12 : u_CI "UnmarkedPagesLaw" 12 mMod_init 0 := ⟨mo_Mod_init, Or.inl (uw_mem 738 rfl rfl), uw_mem 739 rfl rfl, rfl, rfl⟩
set_option maxRecDepth 20000 in
theorem kV_Law_13 : u_CV "UnmarkedPagesLaw" 13 8 mUmp_rule 3 := ⟨mo_Ump_rule, uw_mem 323 rfl rfl, uw_mem 324 rfl rfl, uw_mem 325 rfl rfl, _, rfl, rfl⟩
set_option maxRecDepth 20000 in
theorem kV_Law_17 : u_CV "UnmarkedPagesLaw" 17 9 mMod_rule 3 := ⟨mo_Mod_rule, uw_mem 840 rfl rfl, uw_mem 841 rfl rfl, uw_mem 842 rfl rfl, _, rfl, rfl⟩
set_option maxRecDepth 20000 in
theorem kV_Law_18 : u_CV "UnmarkedPagesLaw" 18 8 mUmp_pack 0 := ⟨mo_Ump_pack, uw_mem 382 rfl rfl, uw_mem 383 rfl rfl, uw_mem 384 rfl rfl, _, rfl, rfl⟩
set_option maxRecDepth 20000 in
theorem kV_Law_22 : u_CV "UnmarkedPagesLaw" 22 9 mMod_pack 0 := ⟨mo_Mod_pack, uw_mem 858 rfl rfl, uw_mem 859 rfl rfl, uw_mem 860 rfl rfl, _, rfl, rfl⟩
set_option maxRecDepth 20000 in
theorem kV_Law_23 : u_CV "UnmarkedPagesLaw" 23 8 mUmp_unpackLast 0 := ⟨mo_Ump_unpackLast, uw_mem 589 rfl rfl, uw_mem 590 rfl rfl, uw_mem 591 rfl rfl, _, rfl, rfl⟩
set_option maxRecDepth 20000 in
theorem kV_Law_26 : u_CV "UnmarkedPagesLaw" 26 9 mMod_unpackLast 0 := ⟨mo_Mod_unpackLast, uw_mem 960 rfl rfl, uw_mem 961 rfl rfl, uw_mem 962 rfl rfl, _, rfl, rfl⟩
set_option maxRecDepth 20000 in
theorem kV_Law_27 : u_CV "UnmarkedPagesLaw" 27 8 mUmp_first 1 := ⟨mo_Ump_first, uw_mem 606 rfl rfl, uw_mem 607 rfl rfl, uw_mem 608 rfl rfl, _, rfl, rfl⟩
set_option maxRecDepth 20000 in
theorem kV_Law_31 : u_CV "UnmarkedPagesLaw" 31 9 mMod_first 1 := ⟨mo_Mod_first, uw_mem 964 rfl rfl, uw_mem 965 rfl rfl, uw_mem 966 rfl rfl, _, rfl, rfl⟩
set_option maxRecDepth 20000 in
theorem kV_Law_32 : u_CV "UnmarkedPagesLaw" 32 8 mUmp_type 1 := ⟨mo_Ump_type, uw_mem 622 rfl rfl, uw_mem 623 rfl rfl, uw_mem 624 rfl rfl, _, rfl, rfl⟩
set_option maxRecDepth 20000 in
theorem kV_Law_36 : u_CV "UnmarkedPagesLaw" 36 9 mMod_type 1 := ⟨mo_Mod_type, uw_mem 976 rfl rfl, uw_mem 977 rfl rfl, uw_mem 978 rfl rfl, _, rfl, rfl⟩
set_option maxRecDepth 20000 in
theorem kV_Law_37 : u_CV "UnmarkedPagesLaw" 37 8 mUmp_clearText 0 := ⟨mo_Ump_clearText, uw_mem 628 rfl rfl, uw_mem 629 rfl rfl, uw_mem 630 rfl rfl, _, rfl, rfl⟩
set_option maxRecDepth 20000 in
theorem kV_Law_40 : u_CV "UnmarkedPagesLaw" 40 9 mMod_clearText 0 := ⟨mo_Mod_clearText, uw_mem 980 rfl rfl, uw_mem 981 rfl rfl, uw_mem 982 rfl rfl, _, rfl, rfl⟩
set_option maxRecDepth 20000 in
theorem kV_Law_41 : u_CV "UnmarkedPagesLaw" 41 8 mUmp_fault 1 := ⟨mo_Ump_fault, uw_mem 633 rfl rfl, uw_mem 634 rfl rfl, uw_mem 635 rfl rfl, _, rfl, rfl⟩
set_option maxRecDepth 20000 in
theorem kV_Law_44 : u_CV "UnmarkedPagesLaw" 44 9 mMod_fault 1 := ⟨mo_Mod_fault, uw_mem 984 rfl rfl, uw_mem 985 rfl rfl, uw_mem 986 rfl rfl, _, rfl, rfl⟩
set_option maxRecDepth 20000 in
theorem kV_Law_45 : u_CV "UnmarkedPagesLaw" 45 8 mUmp_undo 0 := ⟨mo_Ump_undo, uw_mem 637 rfl rfl, uw_mem 638 rfl rfl, uw_mem 639 rfl rfl, _, rfl, rfl⟩
set_option maxRecDepth 20000 in
theorem kV_Law_48 : u_CV "UnmarkedPagesLaw" 48 9 mMod_undo 0 := ⟨mo_Mod_undo, uw_mem 988 rfl rfl, uw_mem 989 rfl rfl, uw_mem 990 rfl rfl, _, rfl, rfl⟩
set_option maxRecDepth 20000 in
theorem kV_Law_49 : u_CV "UnmarkedPagesLaw" 49 8 mUmp_keep 0 := ⟨mo_Ump_keep, uw_mem 641 rfl rfl, uw_mem 642 rfl rfl, uw_mem 643 rfl rfl, _, rfl, rfl⟩
set_option maxRecDepth 20000 in
theorem kV_Law_52 : u_CV "UnmarkedPagesLaw" 52 9 mMod_keep 0 := ⟨mo_Mod_keep, uw_mem 992 rfl rfl, uw_mem 993 rfl rfl, uw_mem 994 rfl rfl, _, rfl, rfl⟩
set_option maxRecDepth 20000 in
theorem kV_Law_53 : u_CV "UnmarkedPagesLaw" 53 8 mUmp_restore 0 := ⟨mo_Ump_restore, uw_mem 645 rfl rfl, uw_mem 646 rfl rfl, uw_mem 647 rfl rfl, _, rfl, rfl⟩
set_option maxRecDepth 20000 in
theorem kV_Law_56 : u_CV "UnmarkedPagesLaw" 56 9 mMod_restore 0 := ⟨mo_Mod_restore, uw_mem 996 rfl rfl, uw_mem 997 rfl rfl, uw_mem 998 rfl rfl, _, rfl, rfl⟩
set_option maxRecDepth 20000 in
theorem kV_Law_57 : u_CV "UnmarkedPagesLaw" 57 8 mUmp_charAt 2 := ⟨mo_Ump_charAt, uw_mem 649 rfl rfl, uw_mem 650 rfl rfl, uw_mem 651 rfl rfl, _, rfl, rfl⟩
set_option maxRecDepth 20000 in
theorem kV_Law_61 : u_CV "UnmarkedPagesLaw" 61 9 mMod_charAt 2 := ⟨mo_Mod_charAt, uw_mem 1000 rfl rfl, uw_mem 1001 rfl rfl, uw_mem 1002 rfl rfl, _, rfl, rfl⟩
set_option maxRecDepth 20000 in
theorem kV_Law_62 : u_CV "UnmarkedPagesLaw" 62 8 mUmp_code 3 := ⟨mo_Ump_code, uw_mem 654 rfl rfl, uw_mem 655 rfl rfl, uw_mem 656 rfl rfl, _, rfl, rfl⟩
set_option maxRecDepth 20000 in
theorem kV_Law_66 : u_CV "UnmarkedPagesLaw" 66 9 mMod_code 3 := ⟨mo_Mod_code, uw_mem 1004 rfl rfl, uw_mem 1005 rfl rfl, uw_mem 1006 rfl rfl, _, rfl, rfl⟩
set_option maxRecDepth 20000 in
theorem kV_Law_67 : u_CV "UnmarkedPagesLaw" 67 8 mUmp_bits 2 := ⟨mo_Ump_bits, uw_mem 659 rfl rfl, uw_mem 660 rfl rfl, uw_mem 661 rfl rfl, _, rfl, rfl⟩
set_option maxRecDepth 20000 in
theorem kV_Law_70 : u_CV "UnmarkedPagesLaw" 70 9 mMod_bits 2 := ⟨mo_Mod_bits, uw_mem 1008 rfl rfl, uw_mem 1009 rfl rfl, uw_mem 1010 rfl rfl, _, rfl, rfl⟩
set_option maxRecDepth 20000 in
theorem kV_Law_71 : u_CV "UnmarkedPagesLaw" 71 8 mUmp_wouldTake 1 := ⟨mo_Ump_wouldTake, uw_mem 664 rfl rfl, uw_mem 665 rfl rfl, uw_mem 666 rfl rfl, _, rfl, rfl⟩
set_option maxRecDepth 20000 in
theorem kV_Law_75 : u_CV "UnmarkedPagesLaw" 75 9 mMod_wouldTake 1 := ⟨mo_Mod_wouldTake, uw_mem 1012 rfl rfl, uw_mem 1013 rfl rfl, uw_mem 1014 rfl rfl, _, rfl, rfl⟩
set_option maxRecDepth 20000 in
theorem kV_Law_76 : u_CV "UnmarkedPagesLaw" 76 8 mUmp_path 2 := ⟨mo_Ump_path, uw_mem 668 rfl rfl, uw_mem 669 rfl rfl, uw_mem 670 rfl rfl, _, rfl, rfl⟩
set_option maxRecDepth 20000 in
theorem kV_Law_79 : u_CV "UnmarkedPagesLaw" 79 9 mMod_path 2 := ⟨mo_Mod_path, uw_mem 1016 rfl rfl, uw_mem 1017 rfl rfl, uw_mem 1018 rfl rfl, _, rfl, rfl⟩
set_option maxRecDepth 20000 in
theorem kV_Law_80 : u_CV "UnmarkedPagesLaw" 80 8 mUmp_known 2 := ⟨mo_Ump_known, uw_mem 708 rfl rfl, uw_mem 709 rfl rfl, uw_mem 710 rfl rfl, _, rfl, rfl⟩
set_option maxRecDepth 20000 in
theorem kV_Law_83 : u_CV "UnmarkedPagesLaw" 83 9 mMod_known 2 := ⟨mo_Mod_known, uw_mem 1028 rfl rfl, uw_mem 1029 rfl rfl, uw_mem 1030 rfl rfl, _, rfl, rfl⟩
set_option maxRecDepth 20000 in
theorem kV_Law_84 : u_CV "UnmarkedPagesLaw" 84 8 mUmp_latest 2 := ⟨mo_Ump_latest, uw_mem 718 rfl rfl, uw_mem 719 rfl rfl, uw_mem 720 rfl rfl, _, rfl, rfl⟩
set_option maxRecDepth 20000 in
theorem kV_Law_87 : u_CV "UnmarkedPagesLaw" 87 9 mMod_latest 2 := ⟨mo_Mod_latest, uw_mem 1032 rfl rfl, uw_mem 1033 rfl rfl, uw_mem 1034 rfl rfl, _, rfl, rfl⟩
set_option maxRecDepth 20000 in
theorem kV_Law_88 : u_CV "UnmarkedPagesLaw" 88 8 mUmp_count 1 := ⟨mo_Ump_count, uw_mem 723 rfl rfl, uw_mem 724 rfl rfl, uw_mem 725 rfl rfl, _, rfl, rfl⟩
set_option maxRecDepth 20000 in
theorem kV_Law_91 : u_CV "UnmarkedPagesLaw" 91 9 mMod_count 1 := ⟨mo_Mod_count, uw_mem 1036 rfl rfl, uw_mem 1037 rfl rfl, uw_mem 1038 rfl rfl, _, rfl, rfl⟩
set_option maxRecDepth 20000 in
theorem w_oi : Cond.instanceMethod Lib.objectInit ∈ uw_W := uw_mem 71 rfl rfl
set_option maxRecDepth 20000 in
theorem w_oc : Cond.code Lib.objectInit ⟨#[0xb1]⟩ 1 none ∈ uw_W := uw_mem 72 rfl rfl
set_option maxRecDepth 20000 in
theorem w_mi : Cond.initialized "java/lang/Math" ∈ uw_W := uw_mem 55 rfl rfl
set_option maxRecDepth 20000 in
theorem w_maxs : Cond.static Lib.Math.max.name ∈ uw_W := uw_mem 80 rfl rfl
set_option maxRecDepth 20000 in
theorem w_maxc : Cond.code Lib.Math.max.name Lib.Math.max.code 2 (some .int) ∈ uw_W := uw_mem 81 rfl rfl
set_option maxRecDepth 20000 in
theorem w_mins : Cond.static Lib.Math.min.name ∈ uw_W := uw_mem 351 rfl rfl
set_option maxRecDepth 20000 in
theorem w_minc : Cond.code Lib.Math.min.name Lib.Math.min.code 2 (some .int) ∈ uw_W := uw_mem 352 rfl rfl
set_option maxRecDepth 20000 in
theorem kC_Cod_9 : Cond.classLink "UnmarkedPages$Codes" 9 "UnmarkedPages$Row" ∈ uw_W := uw_mem 267 rfl rfl
set_option maxRecDepth 20000 in
theorem kC_Kno_9 : Cond.classLink "UnmarkedPages$Known" 9 "UnmarkedPages$FrontList" ∈ uw_W := uw_mem 227 rfl rfl
set_option maxRecDepth 20000 in
theorem kC_Kno_24 : Cond.classLink "UnmarkedPages$Known" 24 "UnmarkedPages$Row" ∈ uw_W := uw_mem 243 rfl rfl
set_option maxRecDepth 20000 in
theorem kC_Pag_9 : Cond.classLink "UnmarkedPages$Page" 9 "UnmarkedPages$Row" ∈ uw_W := uw_mem 102 rfl rfl
set_option maxRecDepth 20000 in
theorem kC_Pth_9 : Cond.classLink "UnmarkedPages$PathReader" 9 "UnmarkedPages$Row" ∈ uw_W := uw_mem 182 rfl rfl
set_option maxRecDepth 20000 in
theorem kC_Rea_9 : Cond.classLink "UnmarkedPages$Reader" 9 "UnmarkedPages$Page" ∈ uw_W := uw_mem 96 rfl rfl
set_option maxRecDepth 20000 in
theorem kC_Rea_22 : Cond.classLink "UnmarkedPages$Reader" 22 "UnmarkedPages$Row" ∈ uw_W := uw_mem 148 rfl rfl
set_option maxRecDepth 20000 in
theorem kC_Sta_9 : Cond.classLink "UnmarkedPages$State" 9 "UnmarkedPages$Row" ∈ uw_W := uw_mem 200 rfl rfl
set_option maxRecDepth 20000 in
theorem kC_Sta_20 : Cond.classLink "UnmarkedPages$State" 20 "UnmarkedPages$Page" ∈ uw_W := uw_mem 202 rfl rfl
set_option maxRecDepth 20000 in
theorem kC_Ump_7 : Cond.classLink "UnmarkedPages" 7 "UnmarkedPages$Row" ∈ uw_W := uw_mem 73 rfl rfl
set_option maxRecDepth 20000 in
theorem kC_Ump_18 : Cond.classLink "UnmarkedPages" 18 "UnmarkedPages$Reader" ∈ uw_W := uw_mem 90 rfl rfl
set_option maxRecDepth 20000 in
theorem kC_Ump_25 : Cond.classLink "UnmarkedPages" 25 "UnmarkedPages$PathReader" ∈ uw_W := uw_mem 176 rfl rfl
set_option maxRecDepth 20000 in
theorem kC_Ump_32 : Cond.classLink "UnmarkedPages" 32 "UnmarkedPages$State" ∈ uw_W := uw_mem 194 rfl rfl
set_option maxRecDepth 20000 in
theorem kC_Ump_46 : Cond.classLink "UnmarkedPages" 46 "UnmarkedPages$Known" ∈ uw_W := uw_mem 221 rfl rfl
set_option maxRecDepth 20000 in
theorem kC_Ump_53 : Cond.classLink "UnmarkedPages" 53 "UnmarkedPages$Codes" ∈ uw_W := uw_mem 260 rfl rfl
set_option maxRecDepth 20000 in
theorem kC_Law_7 : Cond.classLink "UnmarkedPagesLaw" 7 "UnmarkedPages" ∈ uw_W := uw_mem 65 rfl rfl
set_option maxRecDepth 20000 in
theorem kC_Law_10 : Cond.classLink "UnmarkedPagesLaw" 10 "UnmarkedPagesModel" ∈ uw_W := uw_mem 736 rfl rfl
set_option maxRecDepth 20000 in
theorem w_aint : Cond.arrayClass .int ∈ uw_W := uw_mem 89 rfl rfl
set_option maxRecDepth 20000 in
theorem w_along : Cond.arrayClass .long ∈ uw_W := uw_mem 242 rfl rfl
set_option maxRecDepth 20000 in
theorem w_achar : Cond.arrayClass .char ∈ uw_W := uw_mem 839 rfl rfl
set_option maxRecDepth 20000 in
theorem w_i265 : Cond.constant "java/lang/Integer" 265 (1431655765 : Int32) ∈ uw_W := uw_mem 559 rfl rfl
set_option maxRecDepth 20000 in
theorem w_i266 : Cond.constant "java/lang/Integer" 266 (858993459 : Int32) ∈ uw_W := uw_mem 560 rfl rfl
set_option maxRecDepth 20000 in
theorem w_i267 : Cond.constant "java/lang/Integer" 267 (252645135 : Int32) ∈ uw_W := uw_mem 561 rfl rfl
set_option maxRecDepth 20000 in
theorem w_l137 : Cond.constantLong "UnmarkedPages$Known" 137 (17 : Int64) ∈ uw_W := uw_mem 570 rfl rfl
set_option maxRecDepth 20000 in
theorem w_l142 : Cond.constantLong "UnmarkedPages$Known" 142 (103 : Int64) ∈ uw_W := uw_mem 571 rfl rfl
