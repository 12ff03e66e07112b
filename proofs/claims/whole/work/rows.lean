section
/-- a private method of a class that the tables say can be made, by its rows of tables_1 -/
def lw_okq (q : MethodName × Nat) : Prop := (q.1.cls ≠ "java/lang/invoke/MethodHandle" ∧ q.1.cls ≠ "java/lang/invoke/VarHandle") ∧ Cond.instantiable q.1.cls q.2 ∈ tables_1 ∧ Cond.privateMethod q.1 ∈ tables_1 ∧ Cond.instanceMethod q.1 ∈ tables_1
theorem lw_p0 : lw_okq (⟨"UnmarkedPages", "recordState", "()V"⟩, 12) := ⟨⟨by decide +kernel, by decide +kernel⟩, List.mem_of_getElem? (i := 14) (by decide +kernel), List.mem_of_getElem? (i := 287) (by decide +kernel), List.mem_of_getElem? (i := 288) (by decide +kernel)⟩
theorem lw_p1 : lw_okq (⟨"UnmarkedPages$Reader", "take", "(IILUnmarkedPages$State;)V"⟩, 7) := ⟨⟨by decide +kernel, by decide +kernel⟩, List.mem_of_getElem? (i := 39) (by decide +kernel), List.mem_of_getElem? (i := 357) (by decide +kernel), List.mem_of_getElem? (i := 358) (by decide +kernel)⟩
theorem lw_p2 : lw_okq (⟨"UnmarkedPages$Reader", "expect", "(ZII)V"⟩, 7) := ⟨⟨by decide +kernel, by decide +kernel⟩, List.mem_of_getElem? (i := 39) (by decide +kernel), List.mem_of_getElem? (i := 361) (by decide +kernel), List.mem_of_getElem? (i := 362) (by decide +kernel)⟩
theorem lw_p3 : lw_okq (⟨"UnmarkedPages$Reader", "tell", "(III)V"⟩, 7) := ⟨⟨by decide +kernel, by decide +kernel⟩, List.mem_of_getElem? (i := 39) (by decide +kernel), List.mem_of_getElem? (i := 365) (by decide +kernel), List.mem_of_getElem? (i := 366) (by decide +kernel)⟩
theorem lw_p4 : lw_okq (⟨"UnmarkedPages$Reader", "takeBehindMark", "(IILUnmarkedPages$State;)V"⟩, 7) := ⟨⟨by decide +kernel, by decide +kernel⟩, List.mem_of_getElem? (i := 39) (by decide +kernel), List.mem_of_getElem? (i := 369) (by decide +kernel), List.mem_of_getElem? (i := 370) (by decide +kernel)⟩
theorem lw_p5 : lw_okq (⟨"UnmarkedPages$Reader", "openBox", "(IILUnmarkedPages$State;)V"⟩, 7) := ⟨⟨by decide +kernel, by decide +kernel⟩, List.mem_of_getElem? (i := 39) (by decide +kernel), List.mem_of_getElem? (i := 376) (by decide +kernel), List.mem_of_getElem? (i := 377) (by decide +kernel)⟩
theorem lw_p6 : lw_okq (⟨"UnmarkedPages$Reader", "latestName", "()I"⟩, 7) := ⟨⟨by decide +kernel, by decide +kernel⟩, List.mem_of_getElem? (i := 39) (by decide +kernel), List.mem_of_getElem? (i := 380) (by decide +kernel), List.mem_of_getElem? (i := 381) (by decide +kernel)⟩
theorem lw_p7 : lw_okq (⟨"UnmarkedPages$Reader", "close", "(I)V"⟩, 7) := ⟨⟨by decide +kernel, by decide +kernel⟩, List.mem_of_getElem? (i := 39) (by decide +kernel), List.mem_of_getElem? (i := 389) (by decide +kernel), List.mem_of_getElem? (i := 390) (by decide +kernel)⟩
theorem lw_p8 : lw_okq (⟨"UnmarkedPages$Reader", "takeKey", "(II)V"⟩, 7) := ⟨⟨by decide +kernel, by decide +kernel⟩, List.mem_of_getElem? (i := 39) (by decide +kernel), List.mem_of_getElem? (i := 403) (by decide +kernel), List.mem_of_getElem? (i := 404) (by decide +kernel)⟩
theorem lw_p9 : lw_okq (⟨"UnmarkedPages$Reader", "takeInBox", "(II)V"⟩, 7) := ⟨⟨by decide +kernel, by decide +kernel⟩, List.mem_of_getElem? (i := 39) (by decide +kernel), List.mem_of_getElem? (i := 408) (by decide +kernel), List.mem_of_getElem? (i := 409) (by decide +kernel)⟩
theorem lw_p10 : lw_okq (⟨"UnmarkedPages$Reader", "takeClosingName", "(IILUnmarkedPages$State;)V"⟩, 7) := ⟨⟨by decide +kernel, by decide +kernel⟩, List.mem_of_getElem? (i := 39) (by decide +kernel), List.mem_of_getElem? (i := 423) (by decide +kernel), List.mem_of_getElem? (i := 424) (by decide +kernel)⟩
theorem lw_p11 : lw_okq (⟨"UnmarkedPages$Reader", "isEndedByClosing", "(ILUnmarkedPages$State;)Z"⟩, 7) := ⟨⟨by decide +kernel, by decide +kernel⟩, List.mem_of_getElem? (i := 39) (by decide +kernel), List.mem_of_getElem? (i := 427) (by decide +kernel), List.mem_of_getElem? (i := 428) (by decide +kernel)⟩
theorem lw_p12 : lw_okq (⟨"UnmarkedPages$Reader", "takeClosingEnd", "(II)V"⟩, 7) := ⟨⟨by decide +kernel, by decide +kernel⟩, List.mem_of_getElem? (i := 39) (by decide +kernel), List.mem_of_getElem? (i := 431) (by decide +kernel), List.mem_of_getElem? (i := 432) (by decide +kernel)⟩
theorem lw_p13 : lw_okq (⟨"UnmarkedPages", "codesOf", "(I)LUnmarkedPages$Codes;"⟩, 12) := ⟨⟨by decide +kernel, by decide +kernel⟩, List.mem_of_getElem? (i := 14) (by decide +kernel), List.mem_of_getElem? (i := 439) (by decide +kernel), List.mem_of_getElem? (i := 440) (by decide +kernel)⟩
theorem lw_p14 : lw_okq (⟨"UnmarkedPages$Known", "takeName", "(LUnmarkedPages$Page;ILUnmarkedPages$Row;)V"⟩, 4) := ⟨⟨by decide +kernel, by decide +kernel⟩, List.mem_of_getElem? (i := 170) (by decide +kernel), List.mem_of_getElem? (i := 455) (by decide +kernel), List.mem_of_getElem? (i := 456) (by decide +kernel)⟩
theorem lw_p15 : lw_okq (⟨"UnmarkedPages$Known", "takeNotes", "(LUnmarkedPages$Page;ILUnmarkedPages$Row;)V"⟩, 4) := ⟨⟨by decide +kernel, by decide +kernel⟩, List.mem_of_getElem? (i := 170) (by decide +kernel), List.mem_of_getElem? (i := 478) (by decide +kernel), List.mem_of_getElem? (i := 479) (by decide +kernel)⟩
def lw_privs_1 : List (MethodName × Nat) := [(⟨"UnmarkedPages", "recordState", "()V"⟩, 12), (⟨"UnmarkedPages$Reader", "take", "(IILUnmarkedPages$State;)V"⟩, 7), (⟨"UnmarkedPages$Reader", "expect", "(ZII)V"⟩, 7), (⟨"UnmarkedPages$Reader", "tell", "(III)V"⟩, 7), (⟨"UnmarkedPages$Reader", "takeBehindMark", "(IILUnmarkedPages$State;)V"⟩, 7), (⟨"UnmarkedPages$Reader", "openBox", "(IILUnmarkedPages$State;)V"⟩, 7), (⟨"UnmarkedPages$Reader", "latestName", "()I"⟩, 7), (⟨"UnmarkedPages$Reader", "close", "(I)V"⟩, 7), (⟨"UnmarkedPages$Reader", "takeKey", "(II)V"⟩, 7), (⟨"UnmarkedPages$Reader", "takeInBox", "(II)V"⟩, 7), (⟨"UnmarkedPages$Reader", "takeClosingName", "(IILUnmarkedPages$State;)V"⟩, 7), (⟨"UnmarkedPages$Reader", "isEndedByClosing", "(ILUnmarkedPages$State;)Z"⟩, 7), (⟨"UnmarkedPages$Reader", "takeClosingEnd", "(II)V"⟩, 7), (⟨"UnmarkedPages", "codesOf", "(I)LUnmarkedPages$Codes;"⟩, 12), (⟨"UnmarkedPages$Known", "takeName", "(LUnmarkedPages$Page;ILUnmarkedPages$Row;)V"⟩, 4), (⟨"UnmarkedPages$Known", "takeNotes", "(LUnmarkedPages$Page;ILUnmarkedPages$Row;)V"⟩, 4)]
theorem lw_r1 : ∀ q ∈ lw_privs_1, lw_okq q := List.forall_mem_cons.mpr ⟨lw_p0, List.forall_mem_cons.mpr ⟨lw_p1, List.forall_mem_cons.mpr ⟨lw_p2, List.forall_mem_cons.mpr ⟨lw_p3, List.forall_mem_cons.mpr ⟨lw_p4, List.forall_mem_cons.mpr ⟨lw_p5, List.forall_mem_cons.mpr ⟨lw_p6, List.forall_mem_cons.mpr ⟨lw_p7, List.forall_mem_cons.mpr ⟨lw_p8, List.forall_mem_cons.mpr ⟨lw_p9, List.forall_mem_cons.mpr ⟨lw_p10, List.forall_mem_cons.mpr ⟨lw_p11, List.forall_mem_cons.mpr ⟨lw_p12, List.forall_mem_cons.mpr ⟨lw_p13, List.forall_mem_cons.mpr ⟨lw_p14, List.forall_mem_cons.mpr ⟨lw_p15, fun _ h => absurd h List.not_mem_nil⟩⟩⟩⟩⟩⟩⟩⟩⟩⟩⟩⟩⟩⟩⟩⟩
theorem lw_p16 : lw_okq (⟨"UnmarkedPages$Known", "takeValue", "(IIILUnmarkedPages$Row;)V"⟩, 4) := ⟨⟨by decide +kernel, by decide +kernel⟩, List.mem_of_getElem? (i := 170) (by decide +kernel), List.mem_of_getElem? (i := 496) (by decide +kernel), List.mem_of_getElem? (i := 497) (by decide +kernel)⟩
theorem lw_p17 : lw_okq (⟨"UnmarkedPages$Known", "takeWord", "(LUnmarkedPages$Page;ILUnmarkedPages$Row;)V"⟩, 4) := ⟨⟨by decide +kernel, by decide +kernel⟩, List.mem_of_getElem? (i := 170) (by decide +kernel), List.mem_of_getElem? (i := 515) (by decide +kernel), List.mem_of_getElem? (i := 516) (by decide +kernel)⟩
theorem lw_p18 : lw_okq (⟨"UnmarkedPages", "packAnew", "()V"⟩, 12) := ⟨⟨by decide +kernel, by decide +kernel⟩, List.mem_of_getElem? (i := 14) (by decide +kernel), List.mem_of_getElem? (i := 542) (by decide +kernel), List.mem_of_getElem? (i := 543) (by decide +kernel)⟩
theorem lw_p19 : lw_okq (⟨"UnmarkedPages", "bitsOfAllPages", "()I"⟩, 12) := ⟨⟨by decide +kernel, by decide +kernel⟩, List.mem_of_getElem? (i := 14) (by decide +kernel), List.mem_of_getElem? (i := 563) (by decide +kernel), List.mem_of_getElem? (i := 564) (by decide +kernel)⟩
theorem lw_p20 : lw_okq (⟨"UnmarkedPages$PathReader", "takes", "(I)Z"⟩, 3) := ⟨⟨by decide +kernel, by decide +kernel⟩, List.mem_of_getElem? (i := 125) (by decide +kernel), List.mem_of_getElem? (i := 628) (by decide +kernel), List.mem_of_getElem? (i := 629) (by decide +kernel)⟩
theorem lw_p21 : lw_okq (⟨"UnmarkedPages", "toldOfBox", "(LUnmarkedPages$Page;II)I"⟩, 12) := ⟨⟨by decide +kernel, by decide +kernel⟩, List.mem_of_getElem? (i := 14) (by decide +kernel), List.mem_of_getElem? (i := 643) (by decide +kernel), List.mem_of_getElem? (i := 644) (by decide +kernel)⟩
theorem lw_p22 : lw_okq (⟨"UnmarkedPagesModel", "record", "()V"⟩, 32) := ⟨⟨by decide +kernel, by decide +kernel⟩, List.mem_of_getElem? (i := 685) (by decide +kernel), List.mem_of_getElem? (i := 799) (by decide +kernel), List.mem_of_getElem? (i := 800) (by decide +kernel)⟩
theorem lw_p23 : lw_okq (⟨"UnmarkedPagesModel", "rules", "()I"⟩, 32) := ⟨⟨by decide +kernel, by decide +kernel⟩, List.mem_of_getElem? (i := 685) (by decide +kernel), List.mem_of_getElem? (i := 803) (by decide +kernel), List.mem_of_getElem? (i := 804) (by decide +kernel)⟩
theorem lw_p24 : lw_okq (⟨"UnmarkedPagesModel", "takesText", "()V"⟩, 32) := ⟨⟨by decide +kernel, by decide +kernel⟩, List.mem_of_getElem? (i := 685) (by decide +kernel), List.mem_of_getElem? (i := 811) (by decide +kernel), List.mem_of_getElem? (i := 812) (by decide +kernel)⟩
theorem lw_p25 : lw_okq (⟨"UnmarkedPagesModel", "isPage", "()Z"⟩, 32) := ⟨⟨by decide +kernel, by decide +kernel⟩, List.mem_of_getElem? (i := 685) (by decide +kernel), List.mem_of_getElem? (i := 815) (by decide +kernel), List.mem_of_getElem? (i := 816) (by decide +kernel)⟩
theorem lw_p26 : lw_okq (⟨"UnmarkedPagesModel", "isAt", "(III)Z"⟩, 32) := ⟨⟨by decide +kernel, by decide +kernel⟩, List.mem_of_getElem? (i := 685) (by decide +kernel), List.mem_of_getElem? (i := 819) (by decide +kernel), List.mem_of_getElem? (i := 820) (by decide +kernel)⟩
theorem lw_p27 : lw_okq (⟨"UnmarkedPagesModel", "readWord", "(I)I"⟩, 32) := ⟨⟨by decide +kernel, by decide +kernel⟩, List.mem_of_getElem? (i := 685) (by decide +kernel), List.mem_of_getElem? (i := 823) (by decide +kernel), List.mem_of_getElem? (i := 824) (by decide +kernel)⟩
theorem lw_p28 : lw_okq (⟨"UnmarkedPagesModel", "fails", "(III)Z"⟩, 32) := ⟨⟨by decide +kernel, by decide +kernel⟩, List.mem_of_getElem? (i := 685) (by decide +kernel), List.mem_of_getElem? (i := 827) (by decide +kernel), List.mem_of_getElem? (i := 828) (by decide +kernel)⟩
theorem lw_p29 : lw_okq (⟨"UnmarkedPagesModel", "box", "(II)I"⟩, 32) := ⟨⟨by decide +kernel, by decide +kernel⟩, List.mem_of_getElem? (i := 685) (by decide +kernel), List.mem_of_getElem? (i := 831) (by decide +kernel), List.mem_of_getElem? (i := 832) (by decide +kernel)⟩
theorem lw_p30 : lw_okq (⟨"UnmarkedPagesModel", "boxes", "(III)V"⟩, 32) := ⟨⟨by decide +kernel, by decide +kernel⟩, List.mem_of_getElem? (i := 685) (by decide +kernel), List.mem_of_getElem? (i := 835) (by decide +kernel), List.mem_of_getElem? (i := 836) (by decide +kernel)⟩
theorem lw_p31 : lw_okq (⟨"UnmarkedPagesModel", "steps", "(II)V"⟩, 32) := ⟨⟨by decide +kernel, by decide +kernel⟩, List.mem_of_getElem? (i := 685) (by decide +kernel), List.mem_of_getElem? (i := 839) (by decide +kernel), List.mem_of_getElem? (i := 840) (by decide +kernel)⟩
def lw_privs_2 : List (MethodName × Nat) := [(⟨"UnmarkedPages$Known", "takeValue", "(IIILUnmarkedPages$Row;)V"⟩, 4), (⟨"UnmarkedPages$Known", "takeWord", "(LUnmarkedPages$Page;ILUnmarkedPages$Row;)V"⟩, 4), (⟨"UnmarkedPages", "packAnew", "()V"⟩, 12), (⟨"UnmarkedPages", "bitsOfAllPages", "()I"⟩, 12), (⟨"UnmarkedPages$PathReader", "takes", "(I)Z"⟩, 3), (⟨"UnmarkedPages", "toldOfBox", "(LUnmarkedPages$Page;II)I"⟩, 12), (⟨"UnmarkedPagesModel", "record", "()V"⟩, 32), (⟨"UnmarkedPagesModel", "rules", "()I"⟩, 32), (⟨"UnmarkedPagesModel", "takesText", "()V"⟩, 32), (⟨"UnmarkedPagesModel", "isPage", "()Z"⟩, 32), (⟨"UnmarkedPagesModel", "isAt", "(III)Z"⟩, 32), (⟨"UnmarkedPagesModel", "readWord", "(I)I"⟩, 32), (⟨"UnmarkedPagesModel", "fails", "(III)Z"⟩, 32), (⟨"UnmarkedPagesModel", "box", "(II)I"⟩, 32), (⟨"UnmarkedPagesModel", "boxes", "(III)V"⟩, 32), (⟨"UnmarkedPagesModel", "steps", "(II)V"⟩, 32)]
theorem lw_r2 : ∀ q ∈ lw_privs_2, lw_okq q := List.forall_mem_cons.mpr ⟨lw_p16, List.forall_mem_cons.mpr ⟨lw_p17, List.forall_mem_cons.mpr ⟨lw_p18, List.forall_mem_cons.mpr ⟨lw_p19, List.forall_mem_cons.mpr ⟨lw_p20, List.forall_mem_cons.mpr ⟨lw_p21, List.forall_mem_cons.mpr ⟨lw_p22, List.forall_mem_cons.mpr ⟨lw_p23, List.forall_mem_cons.mpr ⟨lw_p24, List.forall_mem_cons.mpr ⟨lw_p25, List.forall_mem_cons.mpr ⟨lw_p26, List.forall_mem_cons.mpr ⟨lw_p27, List.forall_mem_cons.mpr ⟨lw_p28, List.forall_mem_cons.mpr ⟨lw_p29, List.forall_mem_cons.mpr ⟨lw_p30, List.forall_mem_cons.mpr ⟨lw_p31, fun _ h => absurd h List.not_mem_nil⟩⟩⟩⟩⟩⟩⟩⟩⟩⟩⟩⟩⟩⟩⟩⟩
theorem lw_p32 : lw_okq (⟨"UnmarkedPagesModel", "closes", "(I)I"⟩, 32) := ⟨⟨by decide +kernel, by decide +kernel⟩, List.mem_of_getElem? (i := 685) (by decide +kernel), List.mem_of_getElem? (i := 843) (by decide +kernel), List.mem_of_getElem? (i := 844) (by decide +kernel)⟩
theorem lw_p33 : lw_okq (⟨"UnmarkedPagesModel", "implies", "(IZ)V"⟩, 32) := ⟨⟨by decide +kernel, by decide +kernel⟩, List.mem_of_getElem? (i := 685) (by decide +kernel), List.mem_of_getElem? (i := 847) (by decide +kernel), List.mem_of_getElem? (i := 848) (by decide +kernel)⟩
theorem lw_p34 : lw_okq (⟨"UnmarkedPagesModel", "opens", "(I)I"⟩, 32) := ⟨⟨by decide +kernel, by decide +kernel⟩, List.mem_of_getElem? (i := 685) (by decide +kernel), List.mem_of_getElem? (i := 851) (by decide +kernel), List.mem_of_getElem? (i := 852) (by decide +kernel)⟩
theorem lw_p35 : lw_okq (⟨"UnmarkedPagesModel", "readNotes", "(II)I"⟩, 32) := ⟨⟨by decide +kernel, by decide +kernel⟩, List.mem_of_getElem? (i := 685) (by decide +kernel), List.mem_of_getElem? (i := 855) (by decide +kernel), List.mem_of_getElem? (i := 856) (by decide +kernel)⟩
theorem lw_p36 : lw_okq (⟨"UnmarkedPagesModel", "packsUpTo", "(I)V"⟩, 32) := ⟨⟨by decide +kernel, by decide +kernel⟩, List.mem_of_getElem? (i := 685) (by decide +kernel), List.mem_of_getElem? (i := 862) (by decide +kernel), List.mem_of_getElem? (i := 863) (by decide +kernel)⟩
theorem lw_p37 : lw_okq (⟨"UnmarkedPagesModel", "forgets", "()V"⟩, 32) := ⟨⟨by decide +kernel, by decide +kernel⟩, List.mem_of_getElem? (i := 685) (by decide +kernel), List.mem_of_getElem? (i := 866) (by decide +kernel), List.mem_of_getElem? (i := 867) (by decide +kernel)⟩
theorem lw_p38 : lw_okq (⟨"UnmarkedPagesModel", "takesPage", "(I)V"⟩, 32) := ⟨⟨by decide +kernel, by decide +kernel⟩, List.mem_of_getElem? (i := 685) (by decide +kernel), List.mem_of_getElem? (i := 870) (by decide +kernel), List.mem_of_getElem? (i := 871) (by decide +kernel)⟩
theorem lw_p39 : lw_okq (⟨"UnmarkedPagesModel", "packs", "()V"⟩, 32) := ⟨⟨by decide +kernel, by decide +kernel⟩, List.mem_of_getElem? (i := 685) (by decide +kernel), List.mem_of_getElem? (i := 874) (by decide +kernel), List.mem_of_getElem? (i := 875) (by decide +kernel)⟩
theorem lw_p40 : lw_okq (⟨"UnmarkedPagesModel", "codes", "(II)V"⟩, 32) := ⟨⟨by decide +kernel, by decide +kernel⟩, List.mem_of_getElem? (i := 685) (by decide +kernel), List.mem_of_getElem? (i := 878) (by decide +kernel), List.mem_of_getElem? (i := 879) (by decide +kernel)⟩
theorem lw_p41 : lw_okq (⟨"UnmarkedPagesModel", "codesName", "(I)V"⟩, 32) := ⟨⟨by decide +kernel, by decide +kernel⟩, List.mem_of_getElem? (i := 685) (by decide +kernel), List.mem_of_getElem? (i := 882) (by decide +kernel), List.mem_of_getElem? (i := 883) (by decide +kernel)⟩
theorem lw_p42 : lw_okq (⟨"UnmarkedPagesModel", "codesNotes", "(I)V"⟩, 32) := ⟨⟨by decide +kernel, by decide +kernel⟩, List.mem_of_getElem? (i := 685) (by decide +kernel), List.mem_of_getElem? (i := 886) (by decide +kernel), List.mem_of_getElem? (i := 887) (by decide +kernel)⟩
theorem lw_p43 : lw_okq (⟨"UnmarkedPagesModel", "codesWord", "(II)V"⟩, 32) := ⟨⟨by decide +kernel, by decide +kernel⟩, List.mem_of_getElem? (i := 685) (by decide +kernel), List.mem_of_getElem? (i := 890) (by decide +kernel), List.mem_of_getElem? (i := 891) (by decide +kernel)⟩
theorem lw_p44 : lw_okq (⟨"UnmarkedPagesModel", "isWord", "(III)Z"⟩, 32) := ⟨⟨by decide +kernel, by decide +kernel⟩, List.mem_of_getElem? (i := 685) (by decide +kernel), List.mem_of_getElem? (i := 894) (by decide +kernel), List.mem_of_getElem? (i := 895) (by decide +kernel)⟩
theorem lw_p45 : lw_okq (⟨"UnmarkedPagesModel", "pageBits", "()I"⟩, 32) := ⟨⟨by decide +kernel, by decide +kernel⟩, List.mem_of_getElem? (i := 685) (by decide +kernel), List.mem_of_getElem? (i := 898) (by decide +kernel), List.mem_of_getElem? (i := 899) (by decide +kernel)⟩
theorem lw_p46 : lw_okq (⟨"UnmarkedPagesModel", "rowBits", "(I)I"⟩, 32) := ⟨⟨by decide +kernel, by decide +kernel⟩, List.mem_of_getElem? (i := 685) (by decide +kernel), List.mem_of_getElem? (i := 902) (by decide +kernel), List.mem_of_getElem? (i := 903) (by decide +kernel)⟩
theorem lw_p47 : lw_okq (⟨"UnmarkedPagesModel", "no", "(I)Z"⟩, 32) := ⟨⟨by decide +kernel, by decide +kernel⟩, List.mem_of_getElem? (i := 685) (by decide +kernel), List.mem_of_getElem? (i := 917) (by decide +kernel), List.mem_of_getElem? (i := 918) (by decide +kernel)⟩
def lw_privs_3 : List (MethodName × Nat) := [(⟨"UnmarkedPagesModel", "closes", "(I)I"⟩, 32), (⟨"UnmarkedPagesModel", "implies", "(IZ)V"⟩, 32), (⟨"UnmarkedPagesModel", "opens", "(I)I"⟩, 32), (⟨"UnmarkedPagesModel", "readNotes", "(II)I"⟩, 32), (⟨"UnmarkedPagesModel", "packsUpTo", "(I)V"⟩, 32), (⟨"UnmarkedPagesModel", "forgets", "()V"⟩, 32), (⟨"UnmarkedPagesModel", "takesPage", "(I)V"⟩, 32), (⟨"UnmarkedPagesModel", "packs", "()V"⟩, 32), (⟨"UnmarkedPagesModel", "codes", "(II)V"⟩, 32), (⟨"UnmarkedPagesModel", "codesName", "(I)V"⟩, 32), (⟨"UnmarkedPagesModel", "codesNotes", "(I)V"⟩, 32), (⟨"UnmarkedPagesModel", "codesWord", "(II)V"⟩, 32), (⟨"UnmarkedPagesModel", "isWord", "(III)Z"⟩, 32), (⟨"UnmarkedPagesModel", "pageBits", "()I"⟩, 32), (⟨"UnmarkedPagesModel", "rowBits", "(I)I"⟩, 32), (⟨"UnmarkedPagesModel", "no", "(I)Z"⟩, 32)]
theorem lw_r3 : ∀ q ∈ lw_privs_3, lw_okq q := List.forall_mem_cons.mpr ⟨lw_p32, List.forall_mem_cons.mpr ⟨lw_p33, List.forall_mem_cons.mpr ⟨lw_p34, List.forall_mem_cons.mpr ⟨lw_p35, List.forall_mem_cons.mpr ⟨lw_p36, List.forall_mem_cons.mpr ⟨lw_p37, List.forall_mem_cons.mpr ⟨lw_p38, List.forall_mem_cons.mpr ⟨lw_p39, List.forall_mem_cons.mpr ⟨lw_p40, List.forall_mem_cons.mpr ⟨lw_p41, List.forall_mem_cons.mpr ⟨lw_p42, List.forall_mem_cons.mpr ⟨lw_p43, List.forall_mem_cons.mpr ⟨lw_p44, List.forall_mem_cons.mpr ⟨lw_p45, List.forall_mem_cons.mpr ⟨lw_p46, List.forall_mem_cons.mpr ⟨lw_p47, fun _ h => absurd h List.not_mem_nil⟩⟩⟩⟩⟩⟩⟩⟩⟩⟩⟩⟩⟩⟩⟩⟩
theorem lw_p48 : lw_okq (⟨"UnmarkedPagesModel", "allBits", "()I"⟩, 32) := ⟨⟨by decide +kernel, by decide +kernel⟩, List.mem_of_getElem? (i := 685) (by decide +kernel), List.mem_of_getElem? (i := 921) (by decide +kernel), List.mem_of_getElem? (i := 922) (by decide +kernel)⟩
theorem lw_p49 : lw_okq (⟨"UnmarkedPagesModel", "partsOfText", "()I"⟩, 32) := ⟨⟨by decide +kernel, by decide +kernel⟩, List.mem_of_getElem? (i := 685) (by decide +kernel), List.mem_of_getElem? (i := 969) (by decide +kernel), List.mem_of_getElem? (i := 970) (by decide +kernel)⟩
theorem lw_p50 : lw_okq (⟨"UnmarkedPagesModel", "inner", "(III)I"⟩, 32) := ⟨⟨by decide +kernel, by decide +kernel⟩, List.mem_of_getElem? (i := 685) (by decide +kernel), List.mem_of_getElem? (i := 973) (by decide +kernel), List.mem_of_getElem? (i := 974) (by decide +kernel)⟩
theorem lw_p51 : lw_okq (⟨"UnmarkedPagesModel", "overPages", "(I)I"⟩, 32) := ⟨⟨by decide +kernel, by decide +kernel⟩, List.mem_of_getElem? (i := 685) (by decide +kernel), List.mem_of_getElem? (i := 989) (by decide +kernel), List.mem_of_getElem? (i := 990) (by decide +kernel)⟩
def lw_privs_4 : List (MethodName × Nat) := [(⟨"UnmarkedPagesModel", "allBits", "()I"⟩, 32), (⟨"UnmarkedPagesModel", "partsOfText", "()I"⟩, 32), (⟨"UnmarkedPagesModel", "inner", "(III)I"⟩, 32), (⟨"UnmarkedPagesModel", "overPages", "(I)I"⟩, 32)]
theorem lw_r4 : ∀ q ∈ lw_privs_4, lw_okq q := List.forall_mem_cons.mpr ⟨lw_p48, List.forall_mem_cons.mpr ⟨lw_p49, List.forall_mem_cons.mpr ⟨lw_p50, List.forall_mem_cons.mpr ⟨lw_p51, fun _ h => absurd h List.not_mem_nil⟩⟩⟩⟩
def lw_privs : List (MethodName × Nat) := lw_privs_1 ++ (lw_privs_2 ++ (lw_privs_3 ++ (lw_privs_4)))
def lw_tbl : List Cond := k2_sels lw_privs ++ tables_1
theorem lw_privs_ok : ∀ q ∈ lw_privs, lw_okq q := by
  show ∀ q ∈ lw_privs_1 ++ (lw_privs_2 ++ (lw_privs_3 ++ (lw_privs_4))), lw_okq q
  exact List.forall_mem_append.mpr ⟨lw_r1, List.forall_mem_append.mpr ⟨lw_r2, List.forall_mem_append.mpr ⟨lw_r3, lw_r4⟩⟩⟩
end
section
/-! class tables: the fields of each class in their order, and the words that speak of them -/
abbrev uf_L : Type := List (String × String × String × Bool)
abbrev uf_T (l : uf_L) : u_T := fun k => l.getD k ("", "", "", false)
def uf_ty (l : uf_L) (k : Nat) : FieldType := (parseFieldDescriptor (uf_T l k).2.2.1).getD .int
def uf_0 : uf_L := [("UnmarkedPages$Codes", "steps", "LUnmarkedPages$Row;", true), ("UnmarkedPages$Codes", "names", "LUnmarkedPages$Row;", true), ("UnmarkedPages$Codes", "notes", "LUnmarkedPages$Row;", true), ("UnmarkedPages$Codes", "words", "LUnmarkedPages$Row;", true)]
def uf_1 : uf_L := [("UnmarkedPages$FrontList", "items", "[J", true), ("UnmarkedPages$FrontList", "size", "I", false)]
def uf_2 : uf_L := [("UnmarkedPages$Known", "names", "[LUnmarkedPages$FrontList;", true), ("UnmarkedPages$Known", "words", "LUnmarkedPages$FrontList;", true), ("UnmarkedPages$Known", "sets", "LUnmarkedPages$Row;", true), ("UnmarkedPages$Known", "values", "LUnmarkedPages$Row;", true)]
def uf_3 : uf_L := [("UnmarkedPages$Page", "letters", "LUnmarkedPages$Row;", true), ("UnmarkedPages$Page", "steps", "LUnmarkedPages$Row;", true), ("UnmarkedPages$Page", "boxPlaces", "LUnmarkedPages$Row;", true), ("UnmarkedPages$Page", "boxNames", "LUnmarkedPages$Row;", true), ("UnmarkedPages$Page", "boxesAround", "LUnmarkedPages$Row;", true), ("UnmarkedPages$Page", "wordsAround", "LUnmarkedPages$Row;", true), ("UnmarkedPages$Page", "wordPlaces", "LUnmarkedPages$Row;", true), ("UnmarkedPages$Page", "wordLengths", "LUnmarkedPages$Row;", true)]
def uf_4 : uf_L := [("UnmarkedPages$PathReader", "names", "LUnmarkedPages$Row;", true), ("UnmarkedPages$PathReader", "numbers", "LUnmarkedPages$Row;", true), ("UnmarkedPages$PathReader", "mode", "I", false)]
def uf_5 : uf_L := [("UnmarkedPages$Reader", "page", "LUnmarkedPages$Page;", true), ("UnmarkedPages$Reader", "faultPlace", "I", false), ("UnmarkedPages$Reader", "faultKind", "I", false), ("UnmarkedPages$Reader", "faultCause", "I", false), ("UnmarkedPages$Reader", "mode", "I", false), ("UnmarkedPages$Reader", "open", "LUnmarkedPages$Row;", true), ("UnmarkedPages$Reader", "keyPlaces", "LUnmarkedPages$Row;", true)]
def uf_6 : uf_L := [("UnmarkedPages$Row", "items", "[I", true), ("UnmarkedPages$Row", "size", "I", false)]
def uf_7 : uf_L := [("UnmarkedPages$State", "rules", "LUnmarkedPages$Row;", true), ("UnmarkedPages$State", "pages", "[LUnmarkedPages$Page;", true), ("UnmarkedPages$State", "pageCount", "I", false)]
def uf_8 : uf_L := [("UnmarkedPages", "text", "LUnmarkedPages$Row;", true), ("UnmarkedPages", "reader", "LUnmarkedPages$Reader;", true), ("UnmarkedPages", "pathReader", "LUnmarkedPages$PathReader;", true), ("UnmarkedPages", "now", "LUnmarkedPages$State;", true), ("UnmarkedPages", "history", "[LUnmarkedPages$State;", true), ("UnmarkedPages", "historySize", "I", false), ("UnmarkedPages", "snapshot", "LUnmarkedPages$State;", true), ("UnmarkedPages", "hasSnapshot", "Z", false), ("UnmarkedPages", "knowledge", "LUnmarkedPages$Known;", true), ("UnmarkedPages", "packed", "[LUnmarkedPages$Codes;", true), ("UnmarkedPages", "trialKnowledge", "LUnmarkedPages$Known;", true), ("UnmarkedPages", "trialCodes", "LUnmarkedPages$Codes;", true)]
def uf_9 : uf_L := [("UnmarkedPagesModel", "now", "[I", true), ("UnmarkedPagesModel", "history", "[I", true), ("UnmarkedPagesModel", "kept", "I", false), ("UnmarkedPagesModel", "slot", "[I", true), ("UnmarkedPagesModel", "isFilled", "Z", false), ("UnmarkedPagesModel", "letters", "[I", true), ("UnmarkedPagesModel", "length", "I", false), ("UnmarkedPagesModel", "ends", "[I", true), ("UnmarkedPagesModel", "open", "[I", true), ("UnmarkedPagesModel", "depth", "I", false), ("UnmarkedPagesModel", "keyPlaces", "[I", true), ("UnmarkedPagesModel", "boxes", "[I", true), ("UnmarkedPagesModel", "many", "I", false), ("UnmarkedPagesModel", "steps", "[I", true), ("UnmarkedPagesModel", "about", "[I", true), ("UnmarkedPagesModel", "stepped", "I", false), ("UnmarkedPagesModel", "implied", "I", false), ("UnmarkedPagesModel", "faultPlace", "I", false), ("UnmarkedPagesModel", "faultKind", "I", false), ("UnmarkedPagesModel", "faultCause", "I", false), ("UnmarkedPagesModel", "lists", "[I", true), ("UnmarkedPagesModel", "listed", "[I", true), ("UnmarkedPagesModel", "latestSet", "[I", true), ("UnmarkedPagesModel", "latestValue", "[I", true), ("UnmarkedPagesModel", "words", "[I", true), ("UnmarkedPagesModel", "wordsKnown", "I", false), ("UnmarkedPagesModel", "codes", "[I", true), ("UnmarkedPagesModel", "coded", "[I", true), ("UnmarkedPagesModel", "typed", "I", false), ("UnmarkedPagesModel", "text", "[C", true), ("UnmarkedPagesModel", "partNames", "[I", true), ("UnmarkedPagesModel", "partNumbers", "[I", true)]
def u_fl (ci : Nat) : uf_L := match ci with
  | 0 => uf_0
  | 1 => uf_1
  | 2 => uf_2
  | 3 => uf_3
  | 4 => uf_4
  | 5 => uf_5
  | 6 => uf_6
  | 7 => uf_7
  | 8 => uf_8
  | 9 => uf_9
  | _ => []
abbrev u_cls : List vw_C := [("UnmarkedPages$Codes", uf_T uf_0, 4), ("UnmarkedPages$FrontList", uf_T uf_1, 2), ("UnmarkedPages$Known", uf_T uf_2, 4), ("UnmarkedPages$Page", uf_T uf_3, 8), ("UnmarkedPages$PathReader", uf_T uf_4, 3), ("UnmarkedPages$Reader", uf_T uf_5, 7), ("UnmarkedPages$Row", uf_T uf_6, 2), ("UnmarkedPages$State", uf_T uf_7, 3), ("UnmarkedPages", uf_T uf_8, 12), ("UnmarkedPagesModel", uf_T uf_9, 32)]
def uw_W : List Cond := lw_tbl.filter goodWord
theorem uw_mem (i : Nat) {w : Cond} (h : lw_tbl[i]? = some w) (g : goodWord w = true) : w ∈ uw_W := List.mem_filter.mpr ⟨List.mem_of_getElem? h, g⟩
theorem uw_sub : ∀ w ∈ uw_W, w ∈ lw_tbl := fun w h => (List.mem_filter.mp h).1
theorem uw_good : ∀ w ∈ uw_W, goodWord w = true := fun w h => (List.mem_filter.mp h).2
def uc_P (C : String) (l : uf_L) (N : Nat) : Prop := (∀ k, k < N → u_lay C (uf_T l) k ∈ uw_W) ∧ (∀ a, a < N → ∀ b, b < N → a ≠ b → (uf_T l a).2.1 ≠ (uf_T l b).2.1) ∧ (∀ k, k < N → parseFieldDescriptor (uf_T l k).2.2.1 = some (uf_ty l k)) ∧ Cond.instantiable C N ∈ uw_W ∧ Cond.initialized C ∈ uw_W
set_option maxRecDepth 20000 in
theorem uc_0 : uc_P "UnmarkedPages$Codes" uf_0 4 := ⟨lt_s (lt_s (lt_s (lt_s (lt_0) (uw_mem 277 rfl rfl)) (uw_mem 279 rfl rfl)) (uw_mem 281 rfl rfl)) (uw_mem 283 rfl rfl), by decide +kernel, by decide +kernel, uw_mem 262 rfl rfl, uw_mem 62 rfl rfl⟩
set_option maxRecDepth 20000 in
theorem uc_1 : uc_P "UnmarkedPages$FrontList" uf_1 2 := ⟨lt_s (lt_s (lt_0) (uw_mem 237 rfl rfl)) (uw_mem 239 rfl rfl), by decide +kernel, by decide +kernel, uw_mem 229 rfl rfl, uw_mem 61 rfl rfl⟩
set_option maxRecDepth 20000 in
theorem uc_2 : uc_P "UnmarkedPages$Known" uf_2 4 := ⟨lt_s (lt_s (lt_s (lt_s (lt_0) (uw_mem 251 rfl rfl)) (uw_mem 253 rfl rfl)) (uw_mem 255 rfl rfl)) (uw_mem 257 rfl rfl), by decide +kernel, by decide +kernel, uw_mem 222 rfl rfl, uw_mem 60 rfl rfl⟩
set_option maxRecDepth 20000 in
theorem uc_3 : uc_P "UnmarkedPages$Page" uf_3 8 := ⟨lt_s (lt_s (lt_s (lt_s (lt_s (lt_s (lt_s (lt_s (lt_0) (uw_mem 131 rfl rfl)) (uw_mem 133 rfl rfl)) (uw_mem 135 rfl rfl)) (uw_mem 137 rfl rfl)) (uw_mem 139 rfl rfl)) (uw_mem 141 rfl rfl)) (uw_mem 143 rfl rfl)) (uw_mem 145 rfl rfl), by decide +kernel, by decide +kernel, uw_mem 97 rfl rfl, uw_mem 57 rfl rfl⟩
set_option maxRecDepth 20000 in
theorem uc_4 : uc_P "UnmarkedPages$PathReader" uf_4 3 := ⟨lt_s (lt_s (lt_s (lt_0) (uw_mem 187 rfl rfl)) (uw_mem 189 rfl rfl)) (uw_mem 191 rfl rfl), by decide +kernel, by decide +kernel, uw_mem 177 rfl rfl, uw_mem 58 rfl rfl⟩
set_option maxRecDepth 20000 in
theorem uc_5 : uc_P "UnmarkedPages$Reader" uf_5 7 := ⟨lt_s (lt_s (lt_s (lt_s (lt_s (lt_s (lt_s (lt_0) (uw_mem 161 rfl rfl)) (uw_mem 163 rfl rfl)) (uw_mem 165 rfl rfl)) (uw_mem 167 rfl rfl)) (uw_mem 169 rfl rfl)) (uw_mem 171 rfl rfl)) (uw_mem 173 rfl rfl), by decide +kernel, by decide +kernel, uw_mem 91 rfl rfl, uw_mem 56 rfl rfl⟩
set_option maxRecDepth 20000 in
theorem uc_6 : uc_P "UnmarkedPages$Row" uf_6 2 := ⟨lt_s (lt_s (lt_0) (uw_mem 84 rfl rfl)) (uw_mem 86 rfl rfl), by decide +kernel, by decide +kernel, uw_mem 74 rfl rfl, uw_mem 54 rfl rfl⟩
set_option maxRecDepth 20000 in
theorem uc_7 : uc_P "UnmarkedPages$State" uf_7 3 := ⟨lt_s (lt_s (lt_s (lt_0) (uw_mem 213 rfl rfl)) (uw_mem 215 rfl rfl)) (uw_mem 217 rfl rfl), by decide +kernel, by decide +kernel, uw_mem 195 rfl rfl, uw_mem 59 rfl rfl⟩
set_option maxRecDepth 20000 in
theorem uc_8 : uc_P "UnmarkedPages" uf_8 12 := ⟨lt_s (lt_s (lt_s (lt_s (lt_s (lt_s (lt_s (lt_s (lt_s (lt_s (lt_s (lt_s (lt_0) (uw_mem 298 rfl rfl)) (uw_mem 300 rfl rfl)) (uw_mem 302 rfl rfl)) (uw_mem 304 rfl rfl)) (uw_mem 306 rfl rfl)) (uw_mem 308 rfl rfl)) (uw_mem 310 rfl rfl)) (uw_mem 312 rfl rfl)) (uw_mem 314 rfl rfl)) (uw_mem 316 rfl rfl)) (uw_mem 318 rfl rfl)) (uw_mem 320 rfl rfl), by decide +kernel, by decide +kernel, uw_mem 66 rfl rfl, uw_mem 53 rfl rfl⟩
set_option maxRecDepth 20000 in
theorem uc_9 : uc_P "UnmarkedPagesModel" uf_9 32 := ⟨lt_s (lt_s (lt_s (lt_s (lt_s (lt_s (lt_s (lt_s (lt_s (lt_s (lt_s (lt_s (lt_s (lt_s (lt_s (lt_s (lt_s (lt_s (lt_s (lt_s (lt_s (lt_s (lt_s (lt_s (lt_s (lt_s (lt_s (lt_s (lt_s (lt_s (lt_s (lt_s (lt_0) (uw_mem 774 rfl rfl)) (uw_mem 776 rfl rfl)) (uw_mem 778 rfl rfl)) (uw_mem 780 rfl rfl)) (uw_mem 782 rfl rfl)) (uw_mem 784 rfl rfl)) (uw_mem 786 rfl rfl)) (uw_mem 788 rfl rfl)) (uw_mem 790 rfl rfl)) (uw_mem 792 rfl rfl)) (uw_mem 794 rfl rfl)) (uw_mem 796 rfl rfl)) (uw_mem 798 rfl rfl)) (uw_mem 800 rfl rfl)) (uw_mem 802 rfl rfl)) (uw_mem 804 rfl rfl)) (uw_mem 806 rfl rfl)) (uw_mem 808 rfl rfl)) (uw_mem 810 rfl rfl)) (uw_mem 812 rfl rfl)) (uw_mem 814 rfl rfl)) (uw_mem 816 rfl rfl)) (uw_mem 818 rfl rfl)) (uw_mem 820 rfl rfl)) (uw_mem 822 rfl rfl)) (uw_mem 824 rfl rfl)) (uw_mem 826 rfl rfl)) (uw_mem 828 rfl rfl)) (uw_mem 830 rfl rfl)) (uw_mem 832 rfl rfl)) (uw_mem 834 rfl rfl)) (uw_mem 836 rfl rfl), by decide +kernel, by decide +kernel, uw_mem 737 rfl rfl, uw_mem 63 rfl rfl⟩
theorem uc_at {ci : Nat} {r : vw_C} (h : u_cls[ci]? = some r) : uc_P r.1 (u_fl ci) r.2.2 ∧ r.2.1 = uf_T (u_fl ci) ∧ ci < 10 := by
  match ci, h with
  | 0, h => cases h; exact ⟨uc_0, rfl, by decide⟩
  | 1, h => cases h; exact ⟨uc_1, rfl, by decide⟩
  | 2, h => cases h; exact ⟨uc_2, rfl, by decide⟩
  | 3, h => cases h; exact ⟨uc_3, rfl, by decide⟩
  | 4, h => cases h; exact ⟨uc_4, rfl, by decide⟩
  | 5, h => cases h; exact ⟨uc_5, rfl, by decide⟩
  | 6, h => cases h; exact ⟨uc_6, rfl, by decide⟩
  | 7, h => cases h; exact ⟨uc_7, rfl, by decide⟩
  | 8, h => cases h; exact ⟨uc_8, rfl, by decide⟩
  | 9, h => cases h; exact ⟨uc_9, rfl, by decide⟩
  | ci + 10, h => simp [u_cls] at h
end
section
/-! THE ABSTRACT MACHINE: an abstract heap (next address, cells by address), what a method may assume, and the judgement uW: from here, with these locals, this stack and this abstract heap, the method comes to its end with Q. Each uW is a statement of the machine itself (W). -/
abbrev ui (z : Int) : Value := .int (Int32.ofInt z)
abbrev uj (z : Int) : Value := .long (Int64.ofInt z)
abbrev uCel : Type := (Nat × List Value) ⊕ (Nat × Nat × (Nat → Value))
abbrev uHp : Type := Nat × (Nat → Option uCel)
abbrev uPs : Type := Option Value → uHp → Prop
/-- a method: name, bytes, locals, what it returns; its rank, what it makes (cells, slots); the script that it reads (the law alone) -/
abbrev uM : Type := MethodName × ByteArray × Nat × Option FieldType × (Nat × Nat × Nat) × Option (Nat × Nat × (Nat → Int32))
abbrev uM.y (M : uM) : MethodName := M.1
abbrev uM.cc (M : uM) : ByteArray := M.2.1
abbrev uM.nL (M : uM) : Nat := M.2.2.1
abbrev uM.ret (M : uM) : Option FieldType := M.2.2.2.1
abbrev uM.d (M : uM) : Nat := M.2.2.2.2.1.1
abbrev uM.mc (M : uM) : Nat := M.2.2.2.2.1.2.1
abbrev uM.ms (M : uM) : Nat := M.2.2.2.2.1.2.2
abbrev uM.ex (M : uM) : Option (Nat × Nat × (Nat → Int32)) := M.2.2.2.2.2
abbrev uG : Type := (Nat → ClassId) × (Nat → Nat → Nat) × (Nat → ClassId)
def u_kt (k : Nat) : FieldType := match k with
  | 0 => .int
  | 1 => .long
  | 2 => .char
  | 3 => .object "UnmarkedPages$FrontList"
  | 4 => .object "UnmarkedPages$Page"
  | 5 => .object "UnmarkedPages$State"
  | _ => .object "UnmarkedPages$Codes"
def u_at (G : uG) (a : Nat) (c : uCel) (H : Heap) : Prop := match c with
  | .inl o => ∃ r : vw_C, u_cls[o.1]? = some r ∧ o.2.length = r.2.2 ∧ t_OB a (G.1 o.1) r.2.2 (G.2.1 o.1) H (vp_V o.2)
  | .inr x => x.1 < 7 ∧ H[a]? = some (arrV (G.2.2 x.1) x.2.1 x.2.2)
def u_Rel (G : uG) (B : Nat) (h : uHp) (H : Heap) : Prop := h.1 = H.size ∧ ∀ a c, h.2 a = some c → B ≤ a ∧ u_at G a c H
def u_LR (n : Nat) (l : List Value) (ls : Array Slot) : Prop := ls.size = n ∧ lv_wf ls ∧ l.length = n ∧ ∀ (i : Nat) (v : Value), l[i]? = some v → v ≠ .null → ls[i]? = some (.val v)
/-- links to private members of a nest mate -/
def u_nestF : List (String × Nat × String × String × String × String) := [("UnmarkedPages$Known", 47, "UnmarkedPages$Codes", "steps", "LUnmarkedPages$Row;", "UnmarkedPages"), ("UnmarkedPages$Known", 64, "UnmarkedPages$Codes", "names", "LUnmarkedPages$Row;", "UnmarkedPages"), ("UnmarkedPages$Known", 70, "UnmarkedPages$Codes", "notes", "LUnmarkedPages$Row;", "UnmarkedPages"), ("UnmarkedPages$Known", 79, "UnmarkedPages$Codes", "words", "LUnmarkedPages$Row;", "UnmarkedPages")]
def u_nestM : List (String × Nat × MethodName × String) := [("UnmarkedPages", 20, ⟨"UnmarkedPages$Reader", "<init>", "()V"⟩, "UnmarkedPages"), ("UnmarkedPages$Reader", 11, ⟨"UnmarkedPages$Page", "<init>", "()V"⟩, "UnmarkedPages"), ("UnmarkedPages", 27, ⟨"UnmarkedPages$PathReader", "<init>", "()V"⟩, "UnmarkedPages"), ("UnmarkedPages$State", 29, ⟨"UnmarkedPages$Page", "<init>", "()V"⟩, "UnmarkedPages"), ("UnmarkedPages", 62, ⟨"UnmarkedPages$Codes", "<init>", "()V"⟩, "UnmarkedPages"), ("UnmarkedPages$Reader", 83, ⟨"UnmarkedPages", "isNameLetter", "(I)Z"⟩, "UnmarkedPages"), ("UnmarkedPages$PathReader", 51, ⟨"UnmarkedPages", "isNameLetter", "(I)Z"⟩, "UnmarkedPages")]
def u_over : List String := ["UnmarkedPages$FrontList", "UnmarkedPages$Page", "UnmarkedPages$State", "UnmarkedPages$Codes"]
def u_KK (G : uG) (U : State) : Prop :=
  (∀ (c : Nat) (q : vw_C), u_cls[c]? = some q → u_Kn U q.1 q.2.1 q.2.2 (G.1 c) (G.2.1 c)) ∧ (∀ k : Nat, k < 7 → ArrOfT U (G.2.2 k) (u_kt k) ∧ va_RA U (G.2.2 k) (u_kt k)) ∧
  (∀ q ∈ u_nestF, va_Nw (.fieldLinkNest q.1 q.2.1 q.2.2.1 q.2.2.2.1 q.2.2.2.2.1 q.2.2.2.2.2) U) ∧ (∀ q ∈ u_nestM, va_Nw (.methodLinkNest q.1 q.2.1 q.2.2.1 q.2.2.2) U) ∧ ∀ C ∈ u_over, va_AO C U
theorem u_KK.same {G : uG} {u U : State} (h : u.vm = U.vm) (hK : u_KK G u) : u_KK G U := by
  have hA : u.vm.Alike U.vm := by rw [h]; exact Vm.Alike.refl _
  obtain ⟨h1, h2, h3, h4, h5⟩ := hK
  exact ⟨fun c q hq => u_Kn_moved hA (h1 c q hq), fun k hk => ⟨arrOfT_moved hA (h2 k hk).1, (h2 k hk).2.moved hA⟩, fun q hq => (h3 q hq).same rfl h, fun q hq => (h4 q hq).same rfl h, fun C hC => (h5 C hC).moved hA⟩
theorem u_KK.warm {G : uG} {s U : State} (hW : s.WarmedH U.vm) (hK : u_KK G s) : u_KK G U := by
  have hA : s.vm.Alike U.vm := hW.alike
  obtain ⟨h1, h2, h3, h4, h5⟩ := hK
  exact ⟨fun c q hq => u_Kn_moved hA (h1 c q hq), fun k hk => ⟨arrOfT_moved hA (h2 k hk).1, (h2 k hk).2.moved hA⟩, fun q hq => (h3 q hq).warmF hW, fun q hq => (h4 q hq).warmM hW, fun C hC => (h5 C hC).moved hA⟩
def u_loc (d : Nat) : Nat := if d < 9 then 40 * d else 372
def u_rm (M : uM) : Room := { frames := if M.d < 9 then M.d else 10, cells := M.mc, slots := M.ms, locals := u_loc M.d }
def u_Ctx (G : uG) (B : Nat) (M : uM) (p : Program) (l : Launch) (e : Env) (R : Room) (s : State) (m : MethodId) (args : Array Value) (below : List Frame) (meth : Method) (c : Code) : Prop :=
  p.tables.exec = Jvm.exec ∧ c.code = M.cc ∧ meth.sig.returnType = M.ret ∧ meth.locks = false ∧ c.maxLocals = M.nL ∧ s.vm.findClass M.y.cls = some m.cls ∧ meth.name = M.y.name ∧ (∀ w ∈ uw_W, w.before args s = true) ∧ u_KK G s ∧ R = u_rm M ∧ B ≤ s.heap.size ∧
  ∀ q, M.ex = some q → va_X q.1 q.2.1 q.2.2 s s.heap ∧ q.1 < s.heap.size ∧ q.1 < B
/-- the return instruction at pc, with this value -/
def u_ret (M : uM) (pc : Nat) (v : Option Value) : Prop := match v with
  | none => decode M.cc pc = .ok (.return_, 1) ∧ M.ret = none
  | some (.int x) => decode M.cc pc = .ok (.ireturn, 1) ∧ ∃ ty, M.ret = some ty ∧ narrow ty (.int x) = .int x
  | some (.long _) => decode M.cc pc = .ok (.lreturn, 1) ∧ M.ret = some .long
  | some (.ref _) => decode M.cc pc = .ok (.areturn, 1) ∧ ∃ C, M.ret = some (.object C)
  | _ => False
def u_Fin (G : uG) (B : Nat) (M : uM) (p : Program) (l : Launch) (e : Env) (R : Room) (s : State) (m : MethodId) (args : Array Value) (below : List Frame) (meth : Method) (c : Code) (Q : uPs) (Qf : State → Prop) : Prop :=
  ∀ (H : Heap) (locs : List Loc) (ls : Array Slot) (h : uHp) (pc k n : Nat) (v : Option Value), u_Rel G B h H → va_S (fun q => B ≤ q) s.heap H locs → k ≤ M.mc → n ≤ M.ms → Q v h → u_ret M pc v → W p l e R s m args below meth c H locs k n Qf (F0 m pc ls v.toList)
def uW (M : uM) (pc : Nat) (l st : List Value) (h : uHp) (k n : Nat) (Q : uPs) : Prop :=
  ∀ (G : uG) (B : Nat) (p : Program) (la : Launch) (e : Env) (R : Room) (s : State) (m : MethodId) (args : Array Value) (below : List Frame) (meth : Method) (c : Code) (Qf : State → Prop), u_Ctx G B M p la e R s m args below meth c → u_Fin G B M p la e R s m args below meth c Q Qf →
  ∀ (H : Heap) (locs : List Loc) (ls : Array Slot), u_Rel G B h H → va_S (fun q => B ≤ q) s.heap H locs → u_LR M.nL l ls → W p la e R s m args below meth c H locs k n Qf (F0 m pc ls st)
/-! locals -/
def u_prs (l : List Value) : List (Nat × Value) := (l.zipIdx.filter (fun q => decide (q.1 ≠ Value.null))).map (fun q => (q.2, q.1))
theorem u_prs_mem {l : List Value} {i : Nat} {v : Value} : (i, v) ∈ u_prs l ↔ l[i]? = some v ∧ v ≠ .null := by
  unfold u_prs
  simp only [List.mem_map, List.mem_filter, decide_eq_true_eq, Prod.mk.injEq]
  constructor
  · rintro ⟨⟨a, b⟩, ⟨h1, h2⟩, rfl, rfl⟩
    exact ⟨List.mem_zipIdx_iff_getElem?.mp h1, h2⟩
  · rintro ⟨h1, h2⟩
    exact ⟨(v, i), ⟨List.mem_zipIdx_iff_getElem?.mpr h1, h2⟩, rfl, rfl⟩
theorem u_LR.has {n : Nat} {l : List Value} {ls : Array Slot} (h : u_LR n l ls) : lv_has ls n (u_prs l) := by
  obtain ⟨h1, h2, -, h4⟩ := h
  refine ⟨h1, h2, fun q hq => ?_⟩
  obtain ⟨i, v⟩ := q
  obtain ⟨a, b⟩ := u_prs_mem.mp hq
  exact h4 i v a b
/-- a store of one slot: nothing of two slots stands right below -/
def u_st1 (l : List Value) (i : Nat) : Bool := match i with
  | 0 => true
  | i + 1 => (l.getD i .null).category != 2
theorem u_LR.store {n : Nat} {l : List Value} {ls ls' : Array Slot} {i : Nat} {v : Value} (h : u_LR n l ls) (hs : u_st1 l i = true) (h' : lv_has ls' n ((i, v) :: (u_prs l).filter (fun q => !(q.1 == i) && !(q.1 + 1 == i && q.2.category == 2)))) : u_LR n (l.set i v) ls' := by
  obtain ⟨h1, h2, h3⟩ := h'
  refine ⟨h1, h2, by rw [List.length_set]; exact h.2.2.1, fun j w hj hw => ?_⟩
  by_cases hij : i = j
  · subst hij
    by_cases hl : i < l.length
    · rw [List.getElem?_set_self hl] at hj
      cases hj
      exact h3 _ List.mem_cons_self
    · rw [List.getElem?_eq_none (by rw [List.length_set]; omega)] at hj
      cases hj
  · rw [List.getElem?_set_ne hij] at hj
    refine h3 (j, w) (List.mem_cons_of_mem _ (List.mem_filter.mpr ⟨u_prs_mem.mpr ⟨hj, hw⟩, ?_⟩))
    have e1 : (j == i) = false := by simp; omega
    simp only [e1, Bool.not_false, Bool.true_and]
    cases i with
    | zero => simp
    | succ i =>
      by_cases hji : j = i
      · subst hji
        simp only [u_st1, bne_iff_ne, ne_eq] at hs
        rw [List.getD_eq_getElem?_getD, hj] at hs
        simpa using hs
      · simp; omega
theorem u_LR.store2 {n : Nat} {l : List Value} {ls ls' : Array Slot} {i : Nat} {v : Value} (h : u_LR n l ls) (hs : u_st1 l i = true) (h' : lv_has ls' n ((i, v) :: (u_prs l).filter (fun q => !(q.1 == i) && (!(q.1 == i + 1) && !(q.1 + 1 == i && q.2.category == 2))))) : u_LR n ((l.set i v).set (i + 1) .null) ls' := by
  obtain ⟨h1, h2, h3⟩ := h'
  refine ⟨h1, h2, by rw [List.length_set, List.length_set]; exact h.2.2.1, fun j w hj hw => ?_⟩
  by_cases hij1 : i + 1 = j
  · subst hij1
    by_cases hl : i + 1 < (l.set i v).length
    · rw [List.getElem?_set_self hl] at hj
      cases hj
      exact absurd rfl hw
    · rw [List.getElem?_eq_none (by rw [List.length_set]; omega)] at hj
      cases hj
  · rw [List.getElem?_set_ne hij1] at hj
    by_cases hij : i = j
    · subst hij
      by_cases hl : i < l.length
      · rw [List.getElem?_set_self hl] at hj
        cases hj
        exact h3 _ List.mem_cons_self
      · rw [List.getElem?_eq_none (by rw [List.length_set]; omega)] at hj
        cases hj
    · rw [List.getElem?_set_ne hij] at hj
      refine h3 (j, w) (List.mem_cons_of_mem _ (List.mem_filter.mpr ⟨u_prs_mem.mpr ⟨hj, hw⟩, ?_⟩))
      have e1 : (j == i) = false := by simp; omega
      have e2 : (j == i + 1) = false := by simp; omega
      simp only [e1, e2, Bool.not_false, Bool.true_and]
      cases i with
      | zero => simp
      | succ i =>
        by_cases hji : j = i
        · subst hji
          simp only [u_st1, bne_iff_ne, ne_eq] at hs
          rw [List.getD_eq_getElem?_getD, hj] at hs
          simpa using hs
        · simp; omega
/-- the locals at a method's entry -/
def u_ent (n : Nat) (as : List Value) : List Value :=
  let xs := as.flatMap fun v => if v.category = 2 then [v, .null] else [v]
  xs ++ List.replicate (n - xs.length) .null
theorem u_args_mem : ∀ (as : List Value) (k i : Nat) (v : Value), (as.flatMap fun v => if v.category = 2 then [v, .null] else [v])[i]? = some v → v ≠ .null → (k + i, v) ∈ lv_args k as
  | [], k, i, v, h, _ => by simp at h
  | a :: as, k, i, v, h, hv => by
    by_cases hc : a.category = 2
    · simp only [List.flatMap_cons, if_pos hc, lv_args] at h ⊢
      match i, h with
      | 0, h =>
        simp at h
        subst h
        exact List.mem_cons_self
      | 1, h =>
        simp at h
        exact absurd h.symm hv
      | i + 2, h =>
        simp only [List.cons_append, List.nil_append, List.getElem?_cons_succ] at h
        have := u_args_mem as (k + 2) i v h hv
        rw [show k + (i + 2) = k + 2 + i by omega]
        exact List.mem_cons_of_mem _ this
    · simp only [List.flatMap_cons, if_neg hc, lv_args] at h ⊢
      match i, h with
      | 0, h =>
        simp at h
        subst h
        exact List.mem_cons_self
      | i + 1, h =>
        simp only [List.cons_append, List.nil_append, List.getElem?_cons_succ] at h
        have := u_args_mem as (k + 1) i v h hv
        rw [show k + (i + 1) = k + 1 + i by omega]
        exact List.mem_cons_of_mem _ this
theorem u_len_ent : ∀ (as : List Value), (as.flatMap fun v => if v.category = 2 then [v, Value.null] else [v]).length = (lg_sl as).length
  | [] => rfl
  | a :: as => by
    have := u_len_ent as
    by_cases hc : a.category = 2
    · simp only [List.flatMap_cons, if_pos hc, lg_sl, List.length_append] at this ⊢
      rw [this]; rfl
    · simp only [List.flatMap_cons, if_neg hc, lg_sl, List.length_append] at this ⊢
      rw [this]; rfl
theorem u_LR.entry (as : List Value) {n : Nat} (h : (lg_sl as).length ≤ n) : u_LR n (u_ent n as) ((lg_sl as ++ List.replicate (n - (lg_sl as).length) Slot.unset).toArray) := by
  obtain ⟨h1, h2, h3⟩ := lv_entry as h
  refine ⟨h1, h2, ?_, fun i v hi hv => ?_⟩
  · simp only [u_ent, List.length_append, List.length_replicate, u_len_ent]
    omega
  · have key : (as.flatMap fun v => if v.category = 2 then [v, Value.null] else [v])[i]? = some v := by
      simp only [u_ent] at hi
      by_cases hl : i < (as.flatMap fun v => if v.category = 2 then [v, Value.null] else [v]).length
      · rwa [List.getElem?_append_left hl] at hi
      · rw [List.getElem?_append_right (by omega)] at hi
        exact absurd (List.eq_of_mem_replicate (List.mem_of_getElem? hi)) hv
    have := u_args_mem as 0 i v key hv
    rw [Nat.zero_add] at this
    exact h3 _ this
end
section
/-! ONE STEP OF THE ABSTRACT MACHINE, an instruction a row: each is proved out of the kit's row -/
def uD (cc : ByteArray) (pc : Nat) (i : Instr) (len np : Nat) : Prop := decode cc pc = .ok (i, len) ∧ pc + len = np
def uB (cc : ByteArray) (pc : Nat) (f : Int → Instr) (np tg : Nat) : Prop := ∃ off : Int, decode cc pc = .ok (f off, 3) ∧ pc + 3 = np ∧ (pc : Int) + off = (tg : Int)
def u_set (h : uHp) (a : Nat) (c : uCel) : uHp := (h.1, fun b => if b = a then some c else h.2 b)
def u_push (h : uHp) (c : uCel) : uHp := (h.1 + 1, fun b => if b = h.1 then some c else h.2 b)
theorem u_set_1 (h : uHp) (a : Nat) (c : uCel) : (u_set h a c).1 = h.1 := rfl
theorem u_set_eq (h : uHp) (a : Nat) (c : uCel) : (u_set h a c).2 a = some c := if_pos rfl
theorem u_set_ne {h : uHp} {a b : Nat} {c : uCel} (hb : b ≠ a) : (u_set h a c).2 b = h.2 b := if_neg hb
theorem u_push_1 (h : uHp) (c : uCel) : (u_push h c).1 = h.1 + 1 := rfl
theorem u_push_eq (h : uHp) (c : uCel) : (u_push h c).2 h.1 = some c := if_pos rfl
theorem u_push_ne {h : uHp} {b : Nat} {c : uCel} (hb : b ≠ h.1) : (u_push h c).2 b = h.2 b := if_neg hb
theorem u_at.kept {G : uG} {a : Nat} {c : uCel} {H H1 : Heap} (h : u_at G a c H) (hq : H1[a]? = H[a]?) : u_at G a c H1 := by
  cases c with
  | inl x =>
    obtain ⟨r, h1, h2, h3⟩ := h
    exact ⟨r, h1, h2, h3.kept hq⟩
  | inr x => exact ⟨h.1, hq.trans h.2⟩
theorem u_at.lt {G : uG} {a : Nat} {c : uCel} {H : Heap} (h : u_at G a c H) : a < H.size := by
  cases c with
  | inl x =>
    obtain ⟨r, h1, h2, cell, h3, -⟩ := h
    exact (Array.getElem?_eq_some_iff.mp h3).1
  | inr x => exact (Array.getElem?_eq_some_iff.mp h.2).1
theorem u_Rel.put {G : uG} {B : Nat} {h : uHp} {H H1 : Heap} {a : Nat} {c0 c : uCel} (hR : u_Rel G B h H) (ha : h.2 a = some c0) (hc : u_at G a c H1) (z : H1.size = H.size) (o : ∀ q : Nat, q ≠ a → H1[q]? = H[q]?) : u_Rel G B (u_set h a c) H1 := by
  refine ⟨hR.1.trans z.symm, fun b cb hb => ?_⟩
  by_cases hba : b = a
  · subst hba
    rw [u_set_eq] at hb
    cases hb
    exact ⟨(hR.2 b c0 ha).1, hc⟩
  · rw [u_set_ne hba] at hb
    exact ⟨(hR.2 b cb hb).1, (hR.2 b cb hb).2.kept (o b hba)⟩
theorem u_Rel.push {G : uG} {B : Nat} {h : uHp} {H H1 : Heap} {c : uCel} (hR : u_Rel G B h H) (hB : B ≤ H.size) (hc : u_at G H.size c H1) (z : H1.size = H.size + 1) (o : ∀ q : Nat, q < H.size → H1[q]? = H[q]?) : u_Rel G B (u_push h c) H1 := by
  refine ⟨by rw [u_push_1, hR.1, z], fun b cb hb => ?_⟩
  by_cases hba : b = h.1
  · subst hba
    rw [u_push_eq] at hb
    cases hb
    rw [hR.1]
    exact ⟨hB, hc⟩
  · rw [u_push_ne hba] at hb
    have h2 := hR.2 b cb hb
    exact ⟨h2.1, h2.2.kept (o b h2.2.lt)⟩
theorem u_rng {x : Int} (h1 : -2147483648 ≤ x) (h2 : x ≤ 2147483647) : (Int32.ofInt x).toInt = x := Int32.toInt_ofInt_of_le (by omega) (by omega)
theorem u_rngL {x : Int} (h1 : -9223372036854775808 ≤ x) (h2 : x ≤ 9223372036854775807) : (Int64.ofInt x).toInt = x := Int64.toInt_ofInt_of_le (by omega) (by omega)
theorem u_clamp {x : Int} (h1 : -2147483648 ≤ x) (h2 : x ≤ 2147483647) : (Int32.ofInt x).toNatClampNeg = x.toNat := Int32.toNatClampNeg_ofInt_of_le (by omega) (by omega)
abbrev ub (b : Bool) : Value := ui (if b = true then 1 else 0)
section US
variable {M : uM} {pc np tg : Nat} {l l' st : List Value} {h : uHp} {k n : Nat} {Q : uPs}
theorem u_eqS {st2 : List Value} (he : st = st2) (K : uW M pc l st2 h k n Q) : uW M pc l st h k n Q := he ▸ K
/-- the number on top, said otherwise -/
theorem u_top {x y : Int} (he : x = y) (K : uW M pc l (ui y :: st) h k n Q) : uW M pc l (ui x :: st) h k n Q := he ▸ K
theorem u_topR {x : Int32} {y : Int} (he : x = Int32.ofInt y) (K : uW M pc l (ui y :: st) h k n Q) : uW M pc l (.int x :: st) h k n Q := by subst he; exact K
theorem u_topL {x : Int64} {y : Int} (he : x = Int64.ofInt y) (K : uW M pc l (uj y :: st) h k n Q) : uW M pc l (.long x :: st) h k n Q := by subst he; exact K
theorem u_locs (he : l = l') (K : uW M pc l' st h k n Q) : uW M pc l st h k n Q := he ▸ K
theorem u_post {Q' : uPs} (hq : ∀ v h', Q v h' → Q' v h') (K : uW M pc l st h k n Q) : uW M pc l st h k n Q' := by
  intro G B p la e R s m args below meth c Qf C F H locs ls hR hS hL
  exact K G B p la e R s m args below meth c Qf C (fun H locs ls h pc k n v a1 a2 a3 a4 a5 a6 => F H locs ls h pc k n v a1 a2 a3 a4 (hq _ _ a5) a6) H locs ls hR hS hL
theorem us_iconst {z : Int} (hd : uD M.cc pc (.iconst z) 1 np) (K : uW M np l (ui z :: st) h k n Q) : uW M pc l (st) h k n Q := by
  intro G B p la e R s m args below meth c Qf C F H locs ls hR hS hL
  obtain ⟨hd, rfl⟩ := hd
  exact lv_iconst C.1 C.2.1 hd rfl (K G B p la e R s m args below meth c Qf C F H locs ls hR hS hL)
theorem us_bipush {z : Int} (hd : uD M.cc pc (.bipush z) 2 np) (hz : (Int8.ofInt z).toInt32 = Int32.ofInt z) (K : uW M np l (ui z :: st) h k n Q) : uW M pc l (st) h k n Q := by
  intro G B p la e R s m args below meth c Qf C F H locs ls hR hS hL
  obtain ⟨hd, rfl⟩ := hd
  exact lv_bipush C.1 C.2.1 hd hz (K G B p la e R s m args below meth c Qf C F H locs ls hR hS hL)
theorem us_sipush {z : Int} (hd : uD M.cc pc (.sipush z) 3 np) (hz : (Int16.ofInt z).toInt32 = Int32.ofInt z) (K : uW M np l (ui z :: st) h k n Q) : uW M pc l (st) h k n Q := by
  intro G B p la e R s m args below meth c Qf C F H locs ls hR hS hL
  obtain ⟨hd, rfl⟩ := hd
  exact lv_sipush C.1 C.2.1 hd hz (K G B p la e R s m args below meth c Qf C F H locs ls hR hS hL)
theorem us_lconst {z : Fin 2} (hd : uD M.cc pc (.lconst z) 1 np) (K : uW M np l (uj ((z : Nat) : Int) :: st) h k n Q) : uW M pc l (st) h k n Q := by
  intro G B p la e R s m args below meth c Qf C F H locs ls hR hS hL
  obtain ⟨hd, rfl⟩ := hd
  exact lv_lconst C.1 C.2.1 hd (by rfl) (K G B p la e R s m args below meth c Qf C F H locs ls hR hS hL)
theorem us_iload_n {z : Fin 4} {x : Int32} (hd : uD M.cc pc (.iload_n z) 1 np) (hl : l[(z : Nat)]? = some (.int x)) (K : uW M np l (.int x :: st) h k n Q) : uW M pc l (st) h k n Q := by
  intro G B p la e R s m args below meth c Qf C F H locs ls hR hS hL
  obtain ⟨hd, rfl⟩ := hd
  exact lv_iload_n C.1 C.2.1 hd rfl (hL.2.2.2 _ _ hl (fun q => by cases q)) (K G B p la e R s m args below meth c Qf C F H locs ls hR hS hL)
theorem us_iload {z : Nat} {x : Int32} (hd : uD M.cc pc (.iload z) 2 np) (hl : l[z]? = some (.int x)) (K : uW M np l (.int x :: st) h k n Q) : uW M pc l (st) h k n Q := by
  intro G B p la e R s m args below meth c Qf C F H locs ls hR hS hL
  obtain ⟨hd, rfl⟩ := hd
  exact lv_iload C.1 C.2.1 hd (hL.2.2.2 _ _ hl (fun q => by cases q)) (K G B p la e R s m args below meth c Qf C F H locs ls hR hS hL)
theorem us_lload_n {z : Fin 4} {x : Int64} (hd : uD M.cc pc (.lload_n z) 1 np) (hl : l[(z : Nat)]? = some (.long x)) (K : uW M np l (.long x :: st) h k n Q) : uW M pc l (st) h k n Q := by
  intro G B p la e R s m args below meth c Qf C F H locs ls hR hS hL
  obtain ⟨hd, rfl⟩ := hd
  exact lv_lload_n C.1 C.2.1 hd rfl (hL.2.2.2 _ _ hl (fun q => by cases q)) (K G B p la e R s m args below meth c Qf C F H locs ls hR hS hL)
theorem us_lload {z : Nat} {x : Int64} (hd : uD M.cc pc (.lload z) 2 np) (hl : l[z]? = some (.long x)) (K : uW M np l (.long x :: st) h k n Q) : uW M pc l (st) h k n Q := by
  intro G B p la e R s m args below meth c Qf C F H locs ls hR hS hL
  obtain ⟨hd, rfl⟩ := hd
  exact lv_lload C.1 C.2.1 hd (hL.2.2.2 _ _ hl (fun q => by cases q)) (K G B p la e R s m args below meth c Qf C F H locs ls hR hS hL)
theorem us_aload_n {z : Fin 4} {x : Nat} (hd : uD M.cc pc (.aload_n z) 1 np) (hl : l[(z : Nat)]? = some (.ref x)) (K : uW M np l (.ref x :: st) h k n Q) : uW M pc l (st) h k n Q := by
  intro G B p la e R s m args below meth c Qf C F H locs ls hR hS hL
  obtain ⟨hd, rfl⟩ := hd
  exact lv_aload_n C.1 C.2.1 hd rfl (hL.2.2.2 _ _ hl (fun q => by cases q)) (K G B p la e R s m args below meth c Qf C F H locs ls hR hS hL)
theorem us_aload {z : Nat} {x : Nat} (hd : uD M.cc pc (.aload z) 2 np) (hl : l[z]? = some (.ref x)) (K : uW M np l (.ref x :: st) h k n Q) : uW M pc l (st) h k n Q := by
  intro G B p la e R s m args below meth c Qf C F H locs ls hR hS hL
  obtain ⟨hd, rfl⟩ := hd
  exact lv_aload C.1 C.2.1 hd (hL.2.2.2 _ _ hl (fun q => by cases q)) (K G B p la e R s m args below meth c Qf C F H locs ls hR hS hL)
theorem us_istore_n {z : Fin 4} {x : Int32} (hd : uD M.cc pc (.istore_n z) 1 np) (hs : u_st1 l (z : Nat) = true) (hi : (z : Nat) < M.nL) (he : l.set (z : Nat) (.int x) = l') (K : uW M np l' st h k n Q) : uW M pc l (.int x :: st) h k n Q := by
  intro G B p la e R s m args below meth c Qf C F H locs ls hR hS hL
  obtain ⟨hd, rfl⟩ := hd
  refine lv_istore_n C.1 C.2.1 hd rfl hL.has hi rfl (fun ls' h' => ?_)
  exact K G B p la e R s m args below meth c Qf C F H locs ls' hR hS (he ▸ hL.store hs h')
theorem us_istore {z : Nat} {x : Int32} (hd : uD M.cc pc (.istore z) 2 np) (hs : u_st1 l z = true) (hi : z < M.nL) (he : l.set z (.int x) = l') (K : uW M np l' st h k n Q) : uW M pc l (.int x :: st) h k n Q := by
  intro G B p la e R s m args below meth c Qf C F H locs ls hR hS hL
  obtain ⟨hd, rfl⟩ := hd
  refine lv_istore C.1 C.2.1 hd hL.has hi rfl (fun ls' h' => ?_)
  exact K G B p la e R s m args below meth c Qf C F H locs ls' hR hS (he ▸ hL.store hs h')
theorem us_lstore_n {z : Fin 4} {x : Int64} (hd : uD M.cc pc (.lstore_n z) 1 np) (hs : u_st1 l (z : Nat) = true) (hi : (z : Nat) + 1 < M.nL) (he : (l.set (z : Nat) (.long x)).set ((z : Nat) + 1) .null = l') (K : uW M np l' st h k n Q) : uW M pc l (.long x :: st) h k n Q := by
  intro G B p la e R s m args below meth c Qf C F H locs ls hR hS hL
  obtain ⟨hd, rfl⟩ := hd
  refine lv_lstore_n C.1 C.2.1 hd rfl hL.has hi rfl (fun ls' h' => ?_)
  exact K G B p la e R s m args below meth c Qf C F H locs ls' hR hS (he ▸ hL.store2 hs h')
theorem us_lstore {z : Nat} {x : Int64} (hd : uD M.cc pc (.lstore z) 2 np) (hs : u_st1 l z = true) (hi : z + 1 < M.nL) (he : (l.set z (.long x)).set (z + 1) .null = l') (K : uW M np l' st h k n Q) : uW M pc l (.long x :: st) h k n Q := by
  intro G B p la e R s m args below meth c Qf C F H locs ls hR hS hL
  obtain ⟨hd, rfl⟩ := hd
  refine lv_lstore C.1 C.2.1 hd hL.has hi rfl (fun ls' h' => ?_)
  exact K G B p la e R s m args below meth c Qf C F H locs ls' hR hS (he ▸ hL.store2 hs h')
theorem us_astore_n {z : Fin 4} {x : Nat} (hd : uD M.cc pc (.astore_n z) 1 np) (hs : u_st1 l (z : Nat) = true) (hi : (z : Nat) < M.nL) (he : l.set (z : Nat) (.ref x) = l') (K : uW M np l' st h k n Q) : uW M pc l (.ref x :: st) h k n Q := by
  intro G B p la e R s m args below meth c Qf C F H locs ls hR hS hL
  obtain ⟨hd, rfl⟩ := hd
  refine lv_astore_n C.1 C.2.1 hd rfl hL.has hi rfl (fun ls' h' => ?_)
  exact K G B p la e R s m args below meth c Qf C F H locs ls' hR hS (he ▸ hL.store hs h')
theorem us_astore {z : Nat} {x : Nat} (hd : uD M.cc pc (.astore z) 2 np) (hs : u_st1 l z = true) (hi : z < M.nL) (he : l.set z (.ref x) = l') (K : uW M np l' st h k n Q) : uW M pc l (.ref x :: st) h k n Q := by
  intro G B p la e R s m args below meth c Qf C F H locs ls hR hS hL
  obtain ⟨hd, rfl⟩ := hd
  refine lv_astore C.1 C.2.1 hd hL.has hi rfl (fun ls' h' => ?_)
  exact K G B p la e R s m args below meth c Qf C F H locs ls' hR hS (he ▸ hL.store hs h')
theorem us_iinc {i : Nat} {z x : Int} (hd : uD M.cc pc (.iinc i z) 3 np) (hl : l[i]? = some (ui x)) (hs : u_st1 l i = true) (hi : i < M.nL) (he : l.set i (ui (x + z)) = l') (K : uW M np l' st h k n Q) : uW M pc l st h k n Q := by
  intro G B p la e R s m args below meth c Qf C F H locs ls hR hS hL
  obtain ⟨hd, rfl⟩ := hd
  obtain ⟨j, hj⟩ := List.getElem?_of_mem (u_prs_mem.mpr ⟨hl, fun q => by cases q⟩)
  refine lv_iinc C.1 C.2.1 hd hL.has hj (Int32.ofInt_add x z).symm hi rfl (fun ls' h' => ?_)
  exact K G B p la e R s m args below meth c Qf C F H locs ls' hR hS (he ▸ hL.store hs h')
theorem us_iadd {x y : Int} (hd : uD M.cc pc (.iadd) 1 np) (K : uW M np l (ui (x + y) :: st) h k n Q) : uW M pc l (ui y :: ui x :: st) h k n Q := by
  intro G B p la e R s m args below meth c Qf C F H locs ls hR hS hL
  obtain ⟨hd, rfl⟩ := hd
  exact lv_iadd C.1 C.2.1 hd (by rw [← Int32.ofInt_add]; exact (K G B p la e R s m args below meth c Qf C F H locs ls hR hS hL))
theorem us_isub {x y : Int} (hd : uD M.cc pc (.isub) 1 np) (K : uW M np l (ui (x - y) :: st) h k n Q) : uW M pc l (ui y :: ui x :: st) h k n Q := by
  intro G B p la e R s m args below meth c Qf C F H locs ls hR hS hL
  obtain ⟨hd, rfl⟩ := hd
  exact lv_isub C.1 C.2.1 hd (by rw [← Int32.ofInt_sub]; exact (K G B p la e R s m args below meth c Qf C F H locs ls hR hS hL))
theorem us_imul {x y : Int} (hd : uD M.cc pc (.imul) 1 np) (K : uW M np l (ui (x * y) :: st) h k n Q) : uW M pc l (ui y :: ui x :: st) h k n Q := by
  intro G B p la e R s m args below meth c Qf C F H locs ls hR hS hL
  obtain ⟨hd, rfl⟩ := hd
  exact lv_imul C.1 C.2.1 hd (by rw [← Int32.ofInt_mul]; exact (K G B p la e R s m args below meth c Qf C F H locs ls hR hS hL))
theorem us_ladd {x y : Int} (hd : uD M.cc pc (.ladd) 1 np) (K : uW M np l (uj (x + y) :: st) h k n Q) : uW M pc l (uj y :: uj x :: st) h k n Q := by
  intro G B p la e R s m args below meth c Qf C F H locs ls hR hS hL
  obtain ⟨hd, rfl⟩ := hd
  exact lv_ladd C.1 C.2.1 hd (by rw [← Int64.ofInt_add]; exact (K G B p la e R s m args below meth c Qf C F H locs ls hR hS hL))
theorem us_lsub {x y : Int} (hd : uD M.cc pc (.lsub) 1 np) (K : uW M np l (uj (x - y) :: st) h k n Q) : uW M pc l (uj y :: uj x :: st) h k n Q := by
  intro G B p la e R s m args below meth c Qf C F H locs ls hR hS hL
  obtain ⟨hd, rfl⟩ := hd
  exact lv_lsub C.1 C.2.1 hd (by rw [← Int64.ofInt_sub]; exact (K G B p la e R s m args below meth c Qf C F H locs ls hR hS hL))
theorem us_lmul {x y : Int} (hd : uD M.cc pc (.lmul) 1 np) (K : uW M np l (uj (x * y) :: st) h k n Q) : uW M pc l (uj y :: uj x :: st) h k n Q := by
  intro G B p la e R s m args below meth c Qf C F H locs ls hR hS hL
  obtain ⟨hd, rfl⟩ := hd
  exact lv_lmul C.1 C.2.1 hd (by rw [← Int64.ofInt_mul]; exact (K G B p la e R s m args below meth c Qf C F H locs ls hR hS hL))
theorem us_iand {x y : Int32} (hd : uD M.cc pc (.iand) 1 np) (K : uW M np l (.int (x &&& y) :: st) h k n Q) : uW M pc l (.int y :: .int x :: st) h k n Q := by
  intro G B p la e R s m args below meth c Qf C F H locs ls hR hS hL
  obtain ⟨hd, rfl⟩ := hd
  exact lv_iand C.1 C.2.1 hd (K G B p la e R s m args below meth c Qf C F H locs ls hR hS hL)
theorem us_ior {x y : Int32} (hd : uD M.cc pc (.ior) 1 np) (K : uW M np l (.int (x ||| y) :: st) h k n Q) : uW M pc l (.int y :: .int x :: st) h k n Q := by
  intro G B p la e R s m args below meth c Qf C F H locs ls hR hS hL
  obtain ⟨hd, rfl⟩ := hd
  exact lv_ior C.1 C.2.1 hd (K G B p la e R s m args below meth c Qf C F H locs ls hR hS hL)
theorem us_ixor {x y : Int32} (hd : uD M.cc pc (.ixor) 1 np) (K : uW M np l (.int (x ^^^ y) :: st) h k n Q) : uW M pc l (.int y :: .int x :: st) h k n Q := by
  intro G B p la e R s m args below meth c Qf C F H locs ls hR hS hL
  obtain ⟨hd, rfl⟩ := hd
  exact lv_ixor C.1 C.2.1 hd (K G B p la e R s m args below meth c Qf C F H locs ls hR hS hL)
theorem us_ishl {x y : Int32} (hd : uD M.cc pc (.ishl) 1 np) (K : uW M np l (.int (x <<< (y &&& 31)) :: st) h k n Q) : uW M pc l (.int y :: .int x :: st) h k n Q := by
  intro G B p la e R s m args below meth c Qf C F H locs ls hR hS hL
  obtain ⟨hd, rfl⟩ := hd
  exact lv_ishl C.1 C.2.1 hd (K G B p la e R s m args below meth c Qf C F H locs ls hR hS hL)
theorem us_ishr {x y : Int32} (hd : uD M.cc pc (.ishr) 1 np) (K : uW M np l (.int (x >>> (y &&& 31)) :: st) h k n Q) : uW M pc l (.int y :: .int x :: st) h k n Q := by
  intro G B p la e R s m args below meth c Qf C F H locs ls hR hS hL
  obtain ⟨hd, rfl⟩ := hd
  exact lv_ishr C.1 C.2.1 hd (K G B p la e R s m args below meth c Qf C F H locs ls hR hS hL)
theorem us_iushr {x y : Int32} (hd : uD M.cc pc (.iushr) 1 np) (K : uW M np l (.int ((x.toUInt32 >>> (y.toUInt32 &&& Int32.toUInt32 31)).toInt32) :: st) h k n Q) : uW M pc l (.int y :: .int x :: st) h k n Q := by
  intro G B p la e R s m args below meth c Qf C F H locs ls hR hS hL
  obtain ⟨hd, rfl⟩ := hd
  exact lv_iushr C.1 C.2.1 hd rfl (K G B p la e R s m args below meth c Qf C F H locs ls hR hS hL)
theorem us_idiv {x y : Int32} (hd : uD M.cc pc (.idiv) 1 np) (hne : ¬ y = 0) (K : uW M np l (.int (x / y) :: st) h k n Q) : uW M pc l (.int y :: .int x :: st) h k n Q := by
  intro G B p la e R s m args below meth c Qf C F H locs ls hR hS hL
  obtain ⟨hd, rfl⟩ := hd
  exact lv_idiv C.1 C.2.1 hd hne (K G B p la e R s m args below meth c Qf C F H locs ls hR hS hL)
theorem us_irem {x y : Int32} (hd : uD M.cc pc (.irem) 1 np) (hne : ¬ y = 0) (K : uW M np l (.int (x - x / y * y) :: st) h k n Q) : uW M pc l (.int y :: .int x :: st) h k n Q := by
  intro G B p la e R s m args below meth c Qf C F H locs ls hR hS hL
  obtain ⟨hd, rfl⟩ := hd
  exact lv_irem C.1 C.2.1 hd hne (K G B p la e R s m args below meth c Qf C F H locs ls hR hS hL)
theorem us_i2l {x : Int} (hd : uD M.cc pc (.i2l) 1 np) (r : -2147483648 ≤ x ∧ x ≤ 2147483647) (K : uW M np l (uj x :: st) h k n Q) : uW M pc l (ui x :: st) h k n Q := by
  intro G B p la e R s m args below meth c Qf C F H locs ls hR hS hL
  obtain ⟨hd, rfl⟩ := hd
  exact lv_i2l C.1 C.2.1 hd (by rw [Int32.toInt64_ofInt (by show (-2147483648 : Int) ≤ x; exact r.1) (by show x ≤ (2147483647 : Int); exact r.2)]) (K G B p la e R s m args below meth c Qf C F H locs ls hR hS hL)
theorem us_l2i {x : Int} (hd : uD M.cc pc (.l2i) 1 np) (K : uW M np l (ui x :: st) h k n Q) : uW M pc l (uj x :: st) h k n Q := by
  intro G B p la e R s m args below meth c Qf C F H locs ls hR hS hL
  obtain ⟨hd, rfl⟩ := hd
  exact lv_l2i C.1 C.2.1 hd Int64.toInt32_ofInt (K G B p la e R s m args below meth c Qf C F H locs ls hR hS hL)
theorem us_i2c {x : Int32} (hd : uD M.cc pc (.i2c) 1 np) (K : uW M np l (.int (x.toUInt32 % 65536).toInt32 :: st) h k n Q) : uW M pc l (.int x :: st) h k n Q := by
  intro G B p la e R s m args below meth c Qf C F H locs ls hR hS hL
  obtain ⟨hd, rfl⟩ := hd
  exact lv_i2c C.1 C.2.1 hd rfl (K G B p la e R s m args below meth c Qf C F H locs ls hR hS hL)
theorem us_dup {v : Value} (hd : uD M.cc pc (.dup) 1 np) (hv : v.category = 1) (K : uW M np l (v :: v :: st) h k n Q) : uW M pc l (v :: st) h k n Q := by
  intro G B p la e R s m args below meth c Qf C F H locs ls hR hS hL
  obtain ⟨hd, rfl⟩ := hd
  exact lv_dup C.1 C.2.1 hd hv (K G B p la e R s m args below meth c Qf C F H locs ls hR hS hL)
theorem us_pop {v : Value} (hd : uD M.cc pc (.pop) 1 np) (hv : v.category = 1) (K : uW M np l (st) h k n Q) : uW M pc l (v :: st) h k n Q := by
  intro G B p la e R s m args below meth c Qf C F H locs ls hR hS hL
  obtain ⟨hd, rfl⟩ := hd
  exact lv_pop C.1 C.2.1 hd hv (K G B p la e R s m args below meth c Qf C F H locs ls hR hS hL)
theorem us_dup2 {v w : Value} (hd : uD M.cc pc (.dup2) 1 np) (hv : v.category = 1) (hw : w.category = 1) (K : uW M np l (v :: w :: v :: w :: st) h k n Q) : uW M pc l (v :: w :: st) h k n Q := by
  intro G B p la e R s m args below meth c Qf C F H locs ls hR hS hL
  obtain ⟨hd, rfl⟩ := hd
  exact lv_dup2_11 C.1 C.2.1 hd hv hw (K G B p la e R s m args below meth c Qf C F H locs ls hR hS hL)
theorem us_lcmp {x y : Int64} (hd : uD M.cc pc (.lcmp) 1 np) (K : uW M np l (.int (lg_cmp x y) :: st) h k n Q) : uW M pc l (.long y :: .long x :: st) h k n Q := by
  intro G B p la e R s m args below meth c Qf C F H locs ls hR hS hL
  obtain ⟨hd, rfl⟩ := hd
  exact W.lcmp C.1 C.2.1 hd (K G B p la e R s m args below meth c Qf C F H locs ls hR hS hL)
theorem us_ldc2 {idx : Nat} {v : Int64} (hd : uD M.cc pc (.ldc2_w idx) 3 np) (hc : Cond.constantLong M.y.cls idx v ∈ uw_W) (K : uW M np l (.long v :: st) h k n Q) : uW M pc l (st) h k n Q := by
  intro G B p la e R s m args below meth c Qf C F H locs ls hR hS hL
  obtain ⟨hd, rfl⟩ := hd
  exact lv_ldc2 C.1 C.2.1 C.2.2.2.2.2.1 (C.2.2.2.2.2.2.2.1 _ hc) hd (K G B p la e R s m args below meth c Qf C F H locs ls hR hS hL)
theorem us_ldcw {idx : Nat} {v : Int32} (hd : uD M.cc pc (.ldc_w idx) 3 np) (hc : Cond.constant M.y.cls idx v ∈ uw_W) (K : uW M np l (.int v :: st) h k n Q) : uW M pc l (st) h k n Q := by
  intro G B p la e R s m args below meth c Qf C F H locs ls hR hS hL
  obtain ⟨hd, rfl⟩ := hd
  exact lv_ldcw C.1 C.2.1 C.2.2.2.2.2.1 (C.2.2.2.2.2.2.2.1 _ hc) hd (K G B p la e R s m args below meth c Qf C F H locs ls hR hS hL)
theorem us_goto (hd : uB M.cc pc .goto np tg) (K : uW M tg l st h k n Q) : uW M pc l st h k n Q := by
  intro G B p la e R s m args below meth c Qf C F H locs ls hR hS hL
  obtain ⟨off, hd, -, ht⟩ := hd
  exact lv_goto C.1 C.2.1 hd ht (K G B p la e R s m args below meth c Qf C F H locs ls hR hS hL)
theorem us_icmp_eq {x y : Int} (hd : uB M.cc pc (.if_icmp .eq) np tg) (r : -2147483648 ≤ x ∧ x ≤ 2147483647 ∧ -2147483648 ≤ y ∧ y ≤ 2147483647) (kt : x = y → uW M tg l st h k n Q) (kf : x ≠ y → uW M np l st h k n Q) : uW M pc l (ui y :: ui x :: st) h k n Q := by
  intro G B p la e R s m args below meth c Qf C F H locs ls hR hS hL
  obtain ⟨off, hd, rfl, ht⟩ := hd
  obtain ⟨r1, r2, r3, r4⟩ := r
  refine lv_icmp_eq C.1 C.2.1 hd ht (fun q => kt ?_ G B p la e R s m args below meth c Qf C F H locs ls hR hS hL) (fun q => kf ?_ G B p la e R s m args below meth c Qf C F H locs ls hR hS hL)
  · first | rw [← Int32.toInt_inj, u_rng r1 r2, u_rng r3 r4] at q | rw [ne_eq, ← Int32.toInt_inj, u_rng r1 r2, u_rng r3 r4] at q | rw [Int32.lt_iff_toInt_lt, u_rng r1 r2, u_rng r3 r4] at q | rw [Int32.le_iff_toInt_le, u_rng r1 r2, u_rng r3 r4] at q | rw [Int32.lt_iff_toInt_lt, u_rng r3 r4, u_rng r1 r2] at q | rw [Int32.le_iff_toInt_le, u_rng r3 r4, u_rng r1 r2] at q
    omega
  · first | rw [← Int32.toInt_inj, u_rng r1 r2, u_rng r3 r4] at q | rw [ne_eq, ← Int32.toInt_inj, u_rng r1 r2, u_rng r3 r4] at q | rw [Int32.lt_iff_toInt_lt, u_rng r1 r2, u_rng r3 r4] at q | rw [Int32.le_iff_toInt_le, u_rng r1 r2, u_rng r3 r4] at q | rw [Int32.lt_iff_toInt_lt, u_rng r3 r4, u_rng r1 r2] at q | rw [Int32.le_iff_toInt_le, u_rng r3 r4, u_rng r1 r2] at q
    omega
theorem us_icmp_ne {x y : Int} (hd : uB M.cc pc (.if_icmp .ne) np tg) (r : -2147483648 ≤ x ∧ x ≤ 2147483647 ∧ -2147483648 ≤ y ∧ y ≤ 2147483647) (kt : x ≠ y → uW M tg l st h k n Q) (kf : x = y → uW M np l st h k n Q) : uW M pc l (ui y :: ui x :: st) h k n Q := by
  intro G B p la e R s m args below meth c Qf C F H locs ls hR hS hL
  obtain ⟨off, hd, rfl, ht⟩ := hd
  obtain ⟨r1, r2, r3, r4⟩ := r
  refine lv_icmp_ne C.1 C.2.1 hd ht (fun q => kt ?_ G B p la e R s m args below meth c Qf C F H locs ls hR hS hL) (fun q => kf ?_ G B p la e R s m args below meth c Qf C F H locs ls hR hS hL)
  · first | rw [← Int32.toInt_inj, u_rng r1 r2, u_rng r3 r4] at q | rw [ne_eq, ← Int32.toInt_inj, u_rng r1 r2, u_rng r3 r4] at q | rw [Int32.lt_iff_toInt_lt, u_rng r1 r2, u_rng r3 r4] at q | rw [Int32.le_iff_toInt_le, u_rng r1 r2, u_rng r3 r4] at q | rw [Int32.lt_iff_toInt_lt, u_rng r3 r4, u_rng r1 r2] at q | rw [Int32.le_iff_toInt_le, u_rng r3 r4, u_rng r1 r2] at q
    omega
  · first | rw [← Int32.toInt_inj, u_rng r1 r2, u_rng r3 r4] at q | rw [ne_eq, ← Int32.toInt_inj, u_rng r1 r2, u_rng r3 r4] at q | rw [Int32.lt_iff_toInt_lt, u_rng r1 r2, u_rng r3 r4] at q | rw [Int32.le_iff_toInt_le, u_rng r1 r2, u_rng r3 r4] at q | rw [Int32.lt_iff_toInt_lt, u_rng r3 r4, u_rng r1 r2] at q | rw [Int32.le_iff_toInt_le, u_rng r3 r4, u_rng r1 r2] at q
    omega
theorem us_icmp_lt {x y : Int} (hd : uB M.cc pc (.if_icmp .lt) np tg) (r : -2147483648 ≤ x ∧ x ≤ 2147483647 ∧ -2147483648 ≤ y ∧ y ≤ 2147483647) (kt : x < y → uW M tg l st h k n Q) (kf : y ≤ x → uW M np l st h k n Q) : uW M pc l (ui y :: ui x :: st) h k n Q := by
  intro G B p la e R s m args below meth c Qf C F H locs ls hR hS hL
  obtain ⟨off, hd, rfl, ht⟩ := hd
  obtain ⟨r1, r2, r3, r4⟩ := r
  refine lv_icmp_lt C.1 C.2.1 hd ht (fun q => kt ?_ G B p la e R s m args below meth c Qf C F H locs ls hR hS hL) (fun q => kf ?_ G B p la e R s m args below meth c Qf C F H locs ls hR hS hL)
  · first | rw [← Int32.toInt_inj, u_rng r1 r2, u_rng r3 r4] at q | rw [ne_eq, ← Int32.toInt_inj, u_rng r1 r2, u_rng r3 r4] at q | rw [Int32.lt_iff_toInt_lt, u_rng r1 r2, u_rng r3 r4] at q | rw [Int32.le_iff_toInt_le, u_rng r1 r2, u_rng r3 r4] at q | rw [Int32.lt_iff_toInt_lt, u_rng r3 r4, u_rng r1 r2] at q | rw [Int32.le_iff_toInt_le, u_rng r3 r4, u_rng r1 r2] at q
    omega
  · first | rw [← Int32.toInt_inj, u_rng r1 r2, u_rng r3 r4] at q | rw [ne_eq, ← Int32.toInt_inj, u_rng r1 r2, u_rng r3 r4] at q | rw [Int32.lt_iff_toInt_lt, u_rng r1 r2, u_rng r3 r4] at q | rw [Int32.le_iff_toInt_le, u_rng r1 r2, u_rng r3 r4] at q | rw [Int32.lt_iff_toInt_lt, u_rng r3 r4, u_rng r1 r2] at q | rw [Int32.le_iff_toInt_le, u_rng r3 r4, u_rng r1 r2] at q
    omega
theorem us_icmp_ge {x y : Int} (hd : uB M.cc pc (.if_icmp .ge) np tg) (r : -2147483648 ≤ x ∧ x ≤ 2147483647 ∧ -2147483648 ≤ y ∧ y ≤ 2147483647) (kt : y ≤ x → uW M tg l st h k n Q) (kf : x < y → uW M np l st h k n Q) : uW M pc l (ui y :: ui x :: st) h k n Q := by
  intro G B p la e R s m args below meth c Qf C F H locs ls hR hS hL
  obtain ⟨off, hd, rfl, ht⟩ := hd
  obtain ⟨r1, r2, r3, r4⟩ := r
  refine lv_icmp_ge C.1 C.2.1 hd ht (fun q => kt ?_ G B p la e R s m args below meth c Qf C F H locs ls hR hS hL) (fun q => kf ?_ G B p la e R s m args below meth c Qf C F H locs ls hR hS hL)
  · first | rw [← Int32.toInt_inj, u_rng r1 r2, u_rng r3 r4] at q | rw [ne_eq, ← Int32.toInt_inj, u_rng r1 r2, u_rng r3 r4] at q | rw [Int32.lt_iff_toInt_lt, u_rng r1 r2, u_rng r3 r4] at q | rw [Int32.le_iff_toInt_le, u_rng r1 r2, u_rng r3 r4] at q | rw [Int32.lt_iff_toInt_lt, u_rng r3 r4, u_rng r1 r2] at q | rw [Int32.le_iff_toInt_le, u_rng r3 r4, u_rng r1 r2] at q
    omega
  · first | rw [← Int32.toInt_inj, u_rng r1 r2, u_rng r3 r4] at q | rw [ne_eq, ← Int32.toInt_inj, u_rng r1 r2, u_rng r3 r4] at q | rw [Int32.lt_iff_toInt_lt, u_rng r1 r2, u_rng r3 r4] at q | rw [Int32.le_iff_toInt_le, u_rng r1 r2, u_rng r3 r4] at q | rw [Int32.lt_iff_toInt_lt, u_rng r3 r4, u_rng r1 r2] at q | rw [Int32.le_iff_toInt_le, u_rng r3 r4, u_rng r1 r2] at q
    omega
theorem us_icmp_gt {x y : Int} (hd : uB M.cc pc (.if_icmp .gt) np tg) (r : -2147483648 ≤ x ∧ x ≤ 2147483647 ∧ -2147483648 ≤ y ∧ y ≤ 2147483647) (kt : y < x → uW M tg l st h k n Q) (kf : x ≤ y → uW M np l st h k n Q) : uW M pc l (ui y :: ui x :: st) h k n Q := by
  intro G B p la e R s m args below meth c Qf C F H locs ls hR hS hL
  obtain ⟨off, hd, rfl, ht⟩ := hd
  obtain ⟨r1, r2, r3, r4⟩ := r
  refine lv_icmp_gt C.1 C.2.1 hd ht (fun q => kt ?_ G B p la e R s m args below meth c Qf C F H locs ls hR hS hL) (fun q => kf ?_ G B p la e R s m args below meth c Qf C F H locs ls hR hS hL)
  · first | rw [← Int32.toInt_inj, u_rng r1 r2, u_rng r3 r4] at q | rw [ne_eq, ← Int32.toInt_inj, u_rng r1 r2, u_rng r3 r4] at q | rw [Int32.lt_iff_toInt_lt, u_rng r1 r2, u_rng r3 r4] at q | rw [Int32.le_iff_toInt_le, u_rng r1 r2, u_rng r3 r4] at q | rw [Int32.lt_iff_toInt_lt, u_rng r3 r4, u_rng r1 r2] at q | rw [Int32.le_iff_toInt_le, u_rng r3 r4, u_rng r1 r2] at q
    omega
  · first | rw [← Int32.toInt_inj, u_rng r1 r2, u_rng r3 r4] at q | rw [ne_eq, ← Int32.toInt_inj, u_rng r1 r2, u_rng r3 r4] at q | rw [Int32.lt_iff_toInt_lt, u_rng r1 r2, u_rng r3 r4] at q | rw [Int32.le_iff_toInt_le, u_rng r1 r2, u_rng r3 r4] at q | rw [Int32.lt_iff_toInt_lt, u_rng r3 r4, u_rng r1 r2] at q | rw [Int32.le_iff_toInt_le, u_rng r3 r4, u_rng r1 r2] at q
    omega
theorem us_icmp_le {x y : Int} (hd : uB M.cc pc (.if_icmp .le) np tg) (r : -2147483648 ≤ x ∧ x ≤ 2147483647 ∧ -2147483648 ≤ y ∧ y ≤ 2147483647) (kt : x ≤ y → uW M tg l st h k n Q) (kf : y < x → uW M np l st h k n Q) : uW M pc l (ui y :: ui x :: st) h k n Q := by
  intro G B p la e R s m args below meth c Qf C F H locs ls hR hS hL
  obtain ⟨off, hd, rfl, ht⟩ := hd
  obtain ⟨r1, r2, r3, r4⟩ := r
  refine lv_icmp_le C.1 C.2.1 hd ht (fun q => kt ?_ G B p la e R s m args below meth c Qf C F H locs ls hR hS hL) (fun q => kf ?_ G B p la e R s m args below meth c Qf C F H locs ls hR hS hL)
  · first | rw [← Int32.toInt_inj, u_rng r1 r2, u_rng r3 r4] at q | rw [ne_eq, ← Int32.toInt_inj, u_rng r1 r2, u_rng r3 r4] at q | rw [Int32.lt_iff_toInt_lt, u_rng r1 r2, u_rng r3 r4] at q | rw [Int32.le_iff_toInt_le, u_rng r1 r2, u_rng r3 r4] at q | rw [Int32.lt_iff_toInt_lt, u_rng r3 r4, u_rng r1 r2] at q | rw [Int32.le_iff_toInt_le, u_rng r3 r4, u_rng r1 r2] at q
    omega
  · first | rw [← Int32.toInt_inj, u_rng r1 r2, u_rng r3 r4] at q | rw [ne_eq, ← Int32.toInt_inj, u_rng r1 r2, u_rng r3 r4] at q | rw [Int32.lt_iff_toInt_lt, u_rng r1 r2, u_rng r3 r4] at q | rw [Int32.le_iff_toInt_le, u_rng r1 r2, u_rng r3 r4] at q | rw [Int32.lt_iff_toInt_lt, u_rng r3 r4, u_rng r1 r2] at q | rw [Int32.le_iff_toInt_le, u_rng r3 r4, u_rng r1 r2] at q
    omega
theorem us_if_eq {x : Int} (hd : uB M.cc pc (.ifCond .eq) np tg) (r : -2147483648 ≤ x ∧ x ≤ 2147483647) (kt : x = 0 → uW M tg l st h k n Q) (kf : x ≠ 0 → uW M np l st h k n Q) : uW M pc l (ui x :: st) h k n Q := by
  intro G B p la e R s m args below meth c Qf C F H locs ls hR hS hL
  obtain ⟨off, hd, rfl, ht⟩ := hd
  obtain ⟨r1, r2⟩ := r
  refine lv_if_eq C.1 C.2.1 hd ht (fun q => kt ?_ G B p la e R s m args below meth c Qf C F H locs ls hR hS hL) (fun q => kf ?_ G B p la e R s m args below meth c Qf C F H locs ls hR hS hL)
  · first | rw [← Int32.toInt_inj, u_rng r1 r2, Int32.toInt_zero] at q | rw [ne_eq, ← Int32.toInt_inj, u_rng r1 r2, Int32.toInt_zero] at q | rw [Int32.lt_iff_toInt_lt, u_rng r1 r2, Int32.toInt_zero] at q | rw [Int32.le_iff_toInt_le, u_rng r1 r2, Int32.toInt_zero] at q | rw [Int32.lt_iff_toInt_lt, Int32.toInt_zero, u_rng r1 r2] at q | rw [Int32.le_iff_toInt_le, Int32.toInt_zero, u_rng r1 r2] at q
    omega
  · first | rw [← Int32.toInt_inj, u_rng r1 r2, Int32.toInt_zero] at q | rw [ne_eq, ← Int32.toInt_inj, u_rng r1 r2, Int32.toInt_zero] at q | rw [Int32.lt_iff_toInt_lt, u_rng r1 r2, Int32.toInt_zero] at q | rw [Int32.le_iff_toInt_le, u_rng r1 r2, Int32.toInt_zero] at q | rw [Int32.lt_iff_toInt_lt, Int32.toInt_zero, u_rng r1 r2] at q | rw [Int32.le_iff_toInt_le, Int32.toInt_zero, u_rng r1 r2] at q
    omega
theorem us_if_ne {x : Int} (hd : uB M.cc pc (.ifCond .ne) np tg) (r : -2147483648 ≤ x ∧ x ≤ 2147483647) (kt : x ≠ 0 → uW M tg l st h k n Q) (kf : x = 0 → uW M np l st h k n Q) : uW M pc l (ui x :: st) h k n Q := by
  intro G B p la e R s m args below meth c Qf C F H locs ls hR hS hL
  obtain ⟨off, hd, rfl, ht⟩ := hd
  obtain ⟨r1, r2⟩ := r
  refine lv_if_ne C.1 C.2.1 hd ht (fun q => kt ?_ G B p la e R s m args below meth c Qf C F H locs ls hR hS hL) (fun q => kf ?_ G B p la e R s m args below meth c Qf C F H locs ls hR hS hL)
  · first | rw [← Int32.toInt_inj, u_rng r1 r2, Int32.toInt_zero] at q | rw [ne_eq, ← Int32.toInt_inj, u_rng r1 r2, Int32.toInt_zero] at q | rw [Int32.lt_iff_toInt_lt, u_rng r1 r2, Int32.toInt_zero] at q | rw [Int32.le_iff_toInt_le, u_rng r1 r2, Int32.toInt_zero] at q | rw [Int32.lt_iff_toInt_lt, Int32.toInt_zero, u_rng r1 r2] at q | rw [Int32.le_iff_toInt_le, Int32.toInt_zero, u_rng r1 r2] at q
    omega
  · first | rw [← Int32.toInt_inj, u_rng r1 r2, Int32.toInt_zero] at q | rw [ne_eq, ← Int32.toInt_inj, u_rng r1 r2, Int32.toInt_zero] at q | rw [Int32.lt_iff_toInt_lt, u_rng r1 r2, Int32.toInt_zero] at q | rw [Int32.le_iff_toInt_le, u_rng r1 r2, Int32.toInt_zero] at q | rw [Int32.lt_iff_toInt_lt, Int32.toInt_zero, u_rng r1 r2] at q | rw [Int32.le_iff_toInt_le, Int32.toInt_zero, u_rng r1 r2] at q
    omega
theorem us_if_lt {x : Int} (hd : uB M.cc pc (.ifCond .lt) np tg) (r : -2147483648 ≤ x ∧ x ≤ 2147483647) (kt : x < 0 → uW M tg l st h k n Q) (kf : 0 ≤ x → uW M np l st h k n Q) : uW M pc l (ui x :: st) h k n Q := by
  intro G B p la e R s m args below meth c Qf C F H locs ls hR hS hL
  obtain ⟨off, hd, rfl, ht⟩ := hd
  obtain ⟨r1, r2⟩ := r
  refine lv_if_lt C.1 C.2.1 hd ht (fun q => kt ?_ G B p la e R s m args below meth c Qf C F H locs ls hR hS hL) (fun q => kf ?_ G B p la e R s m args below meth c Qf C F H locs ls hR hS hL)
  · first | rw [← Int32.toInt_inj, u_rng r1 r2, Int32.toInt_zero] at q | rw [ne_eq, ← Int32.toInt_inj, u_rng r1 r2, Int32.toInt_zero] at q | rw [Int32.lt_iff_toInt_lt, u_rng r1 r2, Int32.toInt_zero] at q | rw [Int32.le_iff_toInt_le, u_rng r1 r2, Int32.toInt_zero] at q | rw [Int32.lt_iff_toInt_lt, Int32.toInt_zero, u_rng r1 r2] at q | rw [Int32.le_iff_toInt_le, Int32.toInt_zero, u_rng r1 r2] at q
    omega
  · first | rw [← Int32.toInt_inj, u_rng r1 r2, Int32.toInt_zero] at q | rw [ne_eq, ← Int32.toInt_inj, u_rng r1 r2, Int32.toInt_zero] at q | rw [Int32.lt_iff_toInt_lt, u_rng r1 r2, Int32.toInt_zero] at q | rw [Int32.le_iff_toInt_le, u_rng r1 r2, Int32.toInt_zero] at q | rw [Int32.lt_iff_toInt_lt, Int32.toInt_zero, u_rng r1 r2] at q | rw [Int32.le_iff_toInt_le, Int32.toInt_zero, u_rng r1 r2] at q
    omega
theorem us_if_ge {x : Int} (hd : uB M.cc pc (.ifCond .ge) np tg) (r : -2147483648 ≤ x ∧ x ≤ 2147483647) (kt : 0 ≤ x → uW M tg l st h k n Q) (kf : x < 0 → uW M np l st h k n Q) : uW M pc l (ui x :: st) h k n Q := by
  intro G B p la e R s m args below meth c Qf C F H locs ls hR hS hL
  obtain ⟨off, hd, rfl, ht⟩ := hd
  obtain ⟨r1, r2⟩ := r
  refine lv_if_ge C.1 C.2.1 hd ht (fun q => kt ?_ G B p la e R s m args below meth c Qf C F H locs ls hR hS hL) (fun q => kf ?_ G B p la e R s m args below meth c Qf C F H locs ls hR hS hL)
  · first | rw [← Int32.toInt_inj, u_rng r1 r2, Int32.toInt_zero] at q | rw [ne_eq, ← Int32.toInt_inj, u_rng r1 r2, Int32.toInt_zero] at q | rw [Int32.lt_iff_toInt_lt, u_rng r1 r2, Int32.toInt_zero] at q | rw [Int32.le_iff_toInt_le, u_rng r1 r2, Int32.toInt_zero] at q | rw [Int32.lt_iff_toInt_lt, Int32.toInt_zero, u_rng r1 r2] at q | rw [Int32.le_iff_toInt_le, Int32.toInt_zero, u_rng r1 r2] at q
    omega
  · first | rw [← Int32.toInt_inj, u_rng r1 r2, Int32.toInt_zero] at q | rw [ne_eq, ← Int32.toInt_inj, u_rng r1 r2, Int32.toInt_zero] at q | rw [Int32.lt_iff_toInt_lt, u_rng r1 r2, Int32.toInt_zero] at q | rw [Int32.le_iff_toInt_le, u_rng r1 r2, Int32.toInt_zero] at q | rw [Int32.lt_iff_toInt_lt, Int32.toInt_zero, u_rng r1 r2] at q | rw [Int32.le_iff_toInt_le, Int32.toInt_zero, u_rng r1 r2] at q
    omega
theorem us_if_gt {x : Int} (hd : uB M.cc pc (.ifCond .gt) np tg) (r : -2147483648 ≤ x ∧ x ≤ 2147483647) (kt : 0 < x → uW M tg l st h k n Q) (kf : x ≤ 0 → uW M np l st h k n Q) : uW M pc l (ui x :: st) h k n Q := by
  intro G B p la e R s m args below meth c Qf C F H locs ls hR hS hL
  obtain ⟨off, hd, rfl, ht⟩ := hd
  obtain ⟨r1, r2⟩ := r
  refine lv_if_gt C.1 C.2.1 hd ht (fun q => kt ?_ G B p la e R s m args below meth c Qf C F H locs ls hR hS hL) (fun q => kf ?_ G B p la e R s m args below meth c Qf C F H locs ls hR hS hL)
  · first | rw [← Int32.toInt_inj, u_rng r1 r2, Int32.toInt_zero] at q | rw [ne_eq, ← Int32.toInt_inj, u_rng r1 r2, Int32.toInt_zero] at q | rw [Int32.lt_iff_toInt_lt, u_rng r1 r2, Int32.toInt_zero] at q | rw [Int32.le_iff_toInt_le, u_rng r1 r2, Int32.toInt_zero] at q | rw [Int32.lt_iff_toInt_lt, Int32.toInt_zero, u_rng r1 r2] at q | rw [Int32.le_iff_toInt_le, Int32.toInt_zero, u_rng r1 r2] at q
    omega
  · first | rw [← Int32.toInt_inj, u_rng r1 r2, Int32.toInt_zero] at q | rw [ne_eq, ← Int32.toInt_inj, u_rng r1 r2, Int32.toInt_zero] at q | rw [Int32.lt_iff_toInt_lt, u_rng r1 r2, Int32.toInt_zero] at q | rw [Int32.le_iff_toInt_le, u_rng r1 r2, Int32.toInt_zero] at q | rw [Int32.lt_iff_toInt_lt, Int32.toInt_zero, u_rng r1 r2] at q | rw [Int32.le_iff_toInt_le, Int32.toInt_zero, u_rng r1 r2] at q
    omega
theorem us_if_le {x : Int} (hd : uB M.cc pc (.ifCond .le) np tg) (r : -2147483648 ≤ x ∧ x ≤ 2147483647) (kt : x ≤ 0 → uW M tg l st h k n Q) (kf : 0 < x → uW M np l st h k n Q) : uW M pc l (ui x :: st) h k n Q := by
  intro G B p la e R s m args below meth c Qf C F H locs ls hR hS hL
  obtain ⟨off, hd, rfl, ht⟩ := hd
  obtain ⟨r1, r2⟩ := r
  refine lv_if_le C.1 C.2.1 hd ht (fun q => kt ?_ G B p la e R s m args below meth c Qf C F H locs ls hR hS hL) (fun q => kf ?_ G B p la e R s m args below meth c Qf C F H locs ls hR hS hL)
  · first | rw [← Int32.toInt_inj, u_rng r1 r2, Int32.toInt_zero] at q | rw [ne_eq, ← Int32.toInt_inj, u_rng r1 r2, Int32.toInt_zero] at q | rw [Int32.lt_iff_toInt_lt, u_rng r1 r2, Int32.toInt_zero] at q | rw [Int32.le_iff_toInt_le, u_rng r1 r2, Int32.toInt_zero] at q | rw [Int32.lt_iff_toInt_lt, Int32.toInt_zero, u_rng r1 r2] at q | rw [Int32.le_iff_toInt_le, Int32.toInt_zero, u_rng r1 r2] at q
    omega
  · first | rw [← Int32.toInt_inj, u_rng r1 r2, Int32.toInt_zero] at q | rw [ne_eq, ← Int32.toInt_inj, u_rng r1 r2, Int32.toInt_zero] at q | rw [Int32.lt_iff_toInt_lt, u_rng r1 r2, Int32.toInt_zero] at q | rw [Int32.le_iff_toInt_le, u_rng r1 r2, Int32.toInt_zero] at q | rw [Int32.lt_iff_toInt_lt, Int32.toInt_zero, u_rng r1 r2] at q | rw [Int32.le_iff_toInt_le, Int32.toInt_zero, u_rng r1 r2] at q
    omega
theorem us_ifb_eq {b : Bool} (hd : uB M.cc pc (.ifCond .eq) np tg) (kt : b = false → uW M tg l st h k n Q) (kf : b = true → uW M np l st h k n Q) : uW M pc l (ub b :: st) h k n Q := by
  refine us_if_eq hd (by cases b <;> decide) (fun q => kt ?_) (fun q => kf ?_)
  · cases b <;> simp_all
  · cases b <;> simp_all
theorem us_ifb_ne {b : Bool} (hd : uB M.cc pc (.ifCond .ne) np tg) (kt : b = true → uW M tg l st h k n Q) (kf : b = false → uW M np l st h k n Q) : uW M pc l (ub b :: st) h k n Q := by
  refine us_if_ne hd (by cases b <;> decide) (fun q => kt ?_) (fun q => kf ?_)
  · cases b <;> simp_all
  · cases b <;> simp_all
theorem us_tableIn {dflt lo hi : Int} {offs : Array Int} {len : Nat} {x off : Int} (hd : decode M.cc pc = .ok (.tableswitch dflt lo hi offs, len)) (r : -2147483648 ≤ x ∧ x ≤ 2147483647) (h1 : lo ≤ x ∧ x ≤ hi) (ho : offs[(x - lo).toNat]? = some off) (ht : (pc : Int) + off = (tg : Int)) (K : uW M tg l st h k n Q) : uW M pc l (ui x :: st) h k n Q := by
  intro G B p la e R s m args below meth c Qf C F H locs ls hR hS hL
  have ee := u_rng r.1 r.2
  exact lv_tableIn C.1 C.2.1 hd (by rw [ee]; omega) (by rw [ee]; omega) (by rw [ee]; exact ho) ht (K G B p la e R s m args below meth c Qf C F H locs ls hR hS hL)
theorem us_tableOut {dflt lo hi : Int} {offs : Array Int} {len : Nat} {x : Int} (hd : decode M.cc pc = .ok (.tableswitch dflt lo hi offs, len)) (r : -2147483648 ≤ x ∧ x ≤ 2147483647) (h1 : x < lo ∨ hi < x) (ht : (pc : Int) + dflt = (tg : Int)) (K : uW M tg l st h k n Q) : uW M pc l (ui x :: st) h k n Q := by
  intro G B p la e R s m args below meth c Qf C F H locs ls hR hS hL
  have ee := u_rng r.1 r.2
  exact lv_tableOut C.1 C.2.1 hd (by rw [ee]; exact h1) ht (K G B p la e R s m args below meth c Qf C F H locs ls hR hS hL)
end US
end
section
/-! the abstract machine's rows for the heap: fields, arrays, what is made -/
def u_lkF (own : String) (idx ci fk : Nat) (ty : FieldType) : Prop := ∃ r : vw_C, u_cls[ci]? = some r ∧ fk < r.2.2 ∧ (r.2.1 fk).1 = r.1 ∧ parseFieldDescriptor (r.2.1 fk).2.2.1 = some ty ∧
  (Cond.fieldLink own idx r.1 (r.2.1 fk).2.1 (r.2.1 fk).2.2.1 ∈ uw_W ∨ ∃ host, (own, idx, r.1, (r.2.1 fk).2.1, (r.2.1 fk).2.2.1, host) ∈ u_nestF)
/-- .. of a field that is not final -/
def u_lkP (own : String) (idx ci fk : Nat) (ty : FieldType) : Prop := ∃ r : vw_C, u_cls[ci]? = some r ∧ fk < r.2.2 ∧ (r.2.1 fk).1 = r.1 ∧ (r.2.1 fk).2.2.2 = false ∧ parseFieldDescriptor (r.2.1 fk).2.2.1 = some ty ∧ Cond.fieldLink own idx r.1 (r.2.1 fk).2.1 (r.2.1 fk).2.2.1 ∈ uw_W
/-- .. of a final field, in its class's constructor -/
def u_lkQ (own : String) (idx ci fk : Nat) (ty : FieldType) : Prop := ∃ r : vw_C, u_cls[ci]? = some r ∧ fk < r.2.2 ∧ (r.2.1 fk).1 = r.1 ∧ r.1 = own ∧ (r.2.1 fk).2.2.2 = true ∧ parseFieldDescriptor (r.2.1 fk).2.2.1 = some ty ∧ Cond.fieldLink own idx r.1 (r.2.1 fk).2.1 (r.2.1 fk).2.2.1 ∈ uw_W
section UH
variable {M : uM} {pc np tg : Nat} {l l' st : List Value} {h : uHp} {k n : Nat} {Q : uPs}
theorem us_getf {idx a : Nat} {fs : List Value} {v : Value} {ty : FieldType} (ci fk : Nat) (hd : uD M.cc pc (.getfield idx) 3 np) (hl : u_lkF M.y.cls idx ci fk ty) (hH : h.2 a = some (.inl (ci, fs))) (hv : fs[fk]? = some v) (K : uW M np l (v :: st) h k n Q) : uW M pc l (.ref a :: st) h k n Q := by
  intro G B p la e R s m args below meth c Qf C F H locs ls hR hS hL
  obtain ⟨hd, rfl⟩ := hd
  obtain ⟨r, hr, hk, hdec, -, hw⟩ := hl
  have KK := K G B p la e R s m args below meth c Qf C F H locs ls hR hS hL
  obtain ⟨hx, hb, -, -, -, hown, -, hts, hK, -, -, -⟩ := C
  obtain ⟨hin, hnm, hty, -⟩ := (uc_at hr).1
  rw [← (uc_at hr).2.1] at hin hnm hty
  have hat : ∃ r' : vw_C, u_cls[ci]? = some r' ∧ fs.length = r'.2.2 ∧ t_OB a (G.1 ci) r'.2.2 (G.2.1 ci) H (vp_V fs) := (hR.2 a _ hH).2
  obtain ⟨r', hr', -, cell, q1, q2, q3, q4⟩ := hat
  obtain rfl : r' = r := Option.some.inj (hr'.symm.trans hr)
  obtain ⟨hSl, hfc, kC, hkC, hkind⟩ := hK.1 ci _ hr
  obtain ⟨cf, kf, fi, f, hi, hsl⟩ := hSl fk hk
  have hinW : ∀ w ∈ u_ws r'.1 r'.2.1 r'.2.2, w ∈ uw_W := fun w hw => by
    obtain ⟨j, hj, rfl⟩ := List.mem_map.mp hw
    exact hin j (List.mem_range.mp hj)
  have hstat := (u_facts hfc hkC (u_lays hts hinW hk) hi).1
  have hvv : cell.slots[f.slot]? = some v := by
    rw [hsl, q4 fk hk]
    simp [vp_V, hv]
  rcases hw with hw | ⟨host, hw⟩
  · exact W.getf hx hb hown (hts _ hw) (by rw [← hdec]; exact hi) hstat q1 (by rw [q3]; exact fun h => by cases h) hvv rfl rfl hd KK
  · exact va_Wgetf hx hb hown ((hK.2.2.1 _ hw).use rfl) (by rw [← hdec]; exact hi) hstat q1 (by rw [q3]; exact fun h => by cases h) hvv rfl rfl hd KK
theorem u_apart' {r : vw_C} {G : uG} {s : State} {args : Array Value} {ci : Nat} (hr : u_cls[ci]? = some r) (hts : ∀ w ∈ uw_W, w.before args s = true) (hK : u_KK G s) : ∀ x y, x < r.2.2 → y < r.2.2 → x ≠ y → (G.2.1 ci) x ≠ (G.2.1 ci) y := by
  obtain ⟨hin, hnm, hty, -⟩ := (uc_at hr).1
  rw [← (uc_at hr).2.1] at hin hnm
  intro x y hx hy hne
  obtain ⟨hS, -⟩ := hK.1 ci _ hr
  obtain ⟨_, _, _, fa, hia, ea⟩ := hS x hx
  obtain ⟨_, _, _, fb, hib, eb⟩ := hS y hy
  have hinW : ∀ w ∈ u_ws r.1 r.2.1 r.2.2, w ∈ uw_W := fun w hw => by
    obtain ⟨j, hj, rfl⟩ := List.mem_map.mp hw
    exact hin j (List.mem_range.mp hj)
  rw [← ea, ← eb]
  refine u_apart (u_lays hts hinW hx) (u_lays hts hinW hy) hia hib ?_
  have t1 := hty x hx
  have t2 := hty y hy
  rw [← (uc_at hr).2.1] at t1 t2
  rw [(State.fieldFound?_type hia t1).1, (State.fieldFound?_type hib t2).1]
  exact hnm x hx y hy hne
theorem us_putf {idx a : Nat} {fs : List Value} {v : Value} {ty : FieldType} (ci fk : Nat) (hd : uD M.cc pc (.putfield idx) 3 np) (hl : u_lkP M.y.cls idx ci fk ty) (hH : h.2 a = some (.inl (ci, fs))) (hn : narrow ty v = v) (hf : fits ty v = true) (K : uW M np l st (u_set h a (.inl (ci, fs.set fk v))) k n Q) : uW M pc l (v :: .ref a :: st) h k n Q := by
  intro G B p la e R s m args below meth c Qf C F H locs ls hR hS hL
  obtain ⟨hd, rfl⟩ := hd
  obtain ⟨r, hr, hk, hdec, hfin, hpd, hw⟩ := hl
  have C0 := C
  obtain ⟨hx, hb, -, -, -, hown, -, hts, hK, -, -, -⟩ := C
  have hap := u_apart' hr hts hK
  obtain ⟨hin, hnm, hty, -⟩ := (uc_at hr).1
  rw [← (uc_at hr).2.1] at hin hnm hty
  have hat : ∃ r' : vw_C, u_cls[ci]? = some r' ∧ fs.length = r'.2.2 ∧ t_OB a (G.1 ci) r'.2.2 (G.2.1 ci) H (vp_V fs) := (hR.2 a _ hH).2
  obtain ⟨r', hr', hlen, cell, q1, q2, q3, q4⟩ := hat
  obtain rfl : r' = r := Option.some.inj (hr'.symm.trans hr)
  obtain ⟨hSl, hfc, kC, hkC, hkind⟩ := hK.1 ci _ hr
  obtain ⟨cf, kf, fi, f, hi, hsl⟩ := hSl fk hk
  have hinW : ∀ w ∈ u_ws r'.1 r'.2.1 r'.2.2, w ∈ uw_W := fun w hw => by
    obtain ⟨j, hj, rfl⟩ := List.mem_map.mp hw
    exact hin j (List.mem_range.mp hj)
  have hstat := (u_facts hfc hkC (u_lays hts hinW hk) hi).1
  have hlay := hts _ (hinW _ (u_in_lay hk))
  unfold u_lay at hlay
  rw [if_neg (by rw [hfin]; decide)] at hlay
  have h6 := u_store hfc hkC hkind hlay hi hpd hn hf
  refine W.putK hx hb (f := f) ⟨hown, hts _ hw, ⟨_, _, _, by rw [← hdec]; exact hi⟩, hstat⟩ (by rw [q2]; exact h6) q1 q3 (by rw [hsl]; exact k2_hasslot (q4 fk hk)) rfl rfl hd fun H' e1 e2 e3 => ?_
  rw [hsl] at e1 ⊢
  refine K G B p la e R s m args below meth c Qf C0 F H' _ ls (hR.put hH ⟨_, hr, by rw [List.length_set]; exact hlen, t_OB.to (V := updV (vp_V fs) fk v) ⟨_, e1, q2, q3, t_set q4 hap hk v⟩ (fun j _ => vp_updV_set (by rw [hlen]; exact hk) v j)⟩ e2 e3) (hS.put e2 e3 (hR.2 a _ hH).1) hL
theorem us_putF {idx a : Nat} {fs : List Value} {v : Value} {ty : FieldType} (ci fk : Nat) (hd : uD M.cc pc (.putfield idx) 3 np) (hl : u_lkQ M.y.cls idx ci fk ty) (hin2 : M.y.name = "<init>") (hH : h.2 a = some (.inl (ci, fs))) (hn : narrow ty v = v) (hf : fits ty v = true) (K : uW M np l st (u_set h a (.inl (ci, fs.set fk v))) k n Q) : uW M pc l (v :: .ref a :: st) h k n Q := by
  intro G B p la e R s m args below meth c Qf C F H locs ls hR hS hL
  obtain ⟨hd, rfl⟩ := hd
  obtain ⟨r, hr, hk, hdec, hro, hfin, hpd, hw⟩ := hl
  have C0 := C
  obtain ⟨hx, hb, -, -, -, hown, hname, hts, hK, -, -, -⟩ := C
  have hap := u_apart' hr hts hK
  obtain ⟨hin, hnm, hty, -⟩ := (uc_at hr).1
  rw [← (uc_at hr).2.1] at hin hnm hty
  have hat : ∃ r' : vw_C, u_cls[ci]? = some r' ∧ fs.length = r'.2.2 ∧ t_OB a (G.1 ci) r'.2.2 (G.2.1 ci) H (vp_V fs) := (hR.2 a _ hH).2
  obtain ⟨r', hr', hlen, cell, q1, q2, q3, q4⟩ := hat
  obtain rfl : r' = r := Option.some.inj (hr'.symm.trans hr)
  obtain ⟨hSl, hfc, kC, hkC, hkind⟩ := hK.1 ci _ hr
  obtain ⟨cf, kf, fi, f, hi, hsl⟩ := hSl fk hk
  have hinW : ∀ w ∈ u_ws r'.1 r'.2.1 r'.2.2, w ∈ uw_W := fun w hw => by
    obtain ⟨j, hj, rfl⟩ := List.mem_map.mp hw
    exact hin j (List.mem_range.mp hj)
  have hstat := (u_facts hfc hkC (u_lays hts hinW hk) hi).1
  have hlay := hts _ (hinW _ (u_in_lay hk))
  unfold u_lay at hlay
  rw [if_pos hfin] at hlay
  have h6 := u_fits hfc hkC hkind (u_lays hts hinW hk) hi hpd hn hf
  have hi' := hi
  rw [hdec] at hi'
  have hcf : m.cls = cf := by
    rw [hdec] at hlay
    rw [hro] at hlay hi'
    exact laid_decl hown hlay hi'
  refine W.putFinK hx hb hown (hts _ hw) hi' hstat hcf (hname.trans hin2) (by rw [q2]; exact h6) q1 q3 (by rw [hsl]; exact k2_hasslot (q4 fk hk)) rfl rfl hd fun H' e1 e2 e3 => ?_
  rw [hsl] at e1 ⊢
  refine K G B p la e R s m args below meth c Qf C0 F H' _ ls (hR.put hH ⟨_, hr, by rw [List.length_set]; exact hlen, t_OB.to (V := updV (vp_V fs) fk v) ⟨_, e1, q2, q3, t_set q4 hap hk v⟩ (fun j _ => vp_updV_set (by rw [hlen]; exact hk) v j)⟩ e2 e3) (hS.put e2 e3 (hR.2 a _ hH).1) hL
end UH
end
section
/-! the abstract machine's rows for arrays and for what is made -/
section UA
variable {M : uM} {pc np tg : Nat} {l l' st : List Value} {h : uHp} {k n : Nat} {Q : uPs}
theorem u_ix {i : Int} {j nn : Nat} (hj : i = (j : Int)) (hlt : j < nn) (hN : nn < 2147483648) : (Int32.ofInt i).toNatClampNeg = j ∧ ¬ (Int32.ofInt i < 0 ∨ nn ≤ (Int32.ofInt i).toNatClampNeg) := by
  subst hj
  have h1 : (Int32.ofInt (j : Int)).toNatClampNeg = j := by rw [u_clamp (by omega) (by omega)]; simp
  refine ⟨h1, ?_⟩
  rw [h1, Int32.lt_iff_toInt_lt, u_rng (by omega) (by omega), Int32.toInt_zero]
  omega
theorem us_alen {a nn kd : Nat} {f : Nat → Value} (hd : uD M.cc pc .arraylength 1 np) (hH : h.2 a = some (.inr (kd, nn, f))) (K : uW M np l (ui (nn : Int) :: st) h k n Q) : uW M pc l (.ref a :: st) h k n Q := by
  intro G B p la e R s m args below meth c Qf C F H locs ls hR hS hL
  obtain ⟨hd, rfl⟩ := hd
  obtain ⟨hkd, hc⟩ : u_at G a (.inr (kd, nn, f)) H := (hR.2 a _ hH).2
  have hA := (C.2.2.2.2.2.2.2.2.1.2.1 kd hkd).1 nn f
  exact W.alen C.1 C.2.1 hc hA (by rw [arrV_size]; rfl) rfl rfl hd (K G B p la e R s m args below meth c Qf C F H locs ls hR hS hL)
theorem us_iald {a nn : Nat} {f : Nat → Value} {i : Int} {v : Value} (j : Nat) (hd : uD M.cc pc .iaload 1 np) (hH : h.2 a = some (.inr (0, nn, f))) (hj : i = (j : Int)) (hlt : j < nn) (hN : nn < 2147483648) (hv : f j = v) (K : uW M np l (v :: st) h k n Q) : uW M pc l (ui i :: .ref a :: st) h k n Q := by
  intro G B p la e R s m args below meth c Qf C F H locs ls hR hS hL
  obtain ⟨hd, rfl⟩ := hd
  obtain ⟨hkd, hc⟩ : u_at G a (.inr (0, nn, f)) H := (hR.2 a _ hH).2
  have hA := (C.2.2.2.2.2.2.2.2.1.2.1 0 hkd).1 nn f
  obtain ⟨e1, e2⟩ := u_ix hj hlt hN
  refine W.iald (v := v) C.1 C.2.1 hc hA (fun q => by cases q) (by rw [arrV_size]; exact e2) (by rw [e1, arrV_read _ _ hlt]; exact congrArg some hv) rfl rfl hd (K G B p la e R s m args below meth c Qf C F H locs ls hR hS hL)
theorem us_lald {a nn : Nat} {f : Nat → Value} {i : Int} {v : Value} (j : Nat) (hd : uD M.cc pc .laload 1 np) (hH : h.2 a = some (.inr (1, nn, f))) (hj : i = (j : Int)) (hlt : j < nn) (hN : nn < 2147483648) (hv : f j = v) (K : uW M np l (v :: st) h k n Q) : uW M pc l (ui i :: .ref a :: st) h k n Q := by
  intro G B p la e R s m args below meth c Qf C F H locs ls hR hS hL
  obtain ⟨hd, rfl⟩ := hd
  obtain ⟨hkd, hc⟩ : u_at G a (.inr (1, nn, f)) H := (hR.2 a _ hH).2
  have hA := (C.2.2.2.2.2.2.2.2.1.2.1 1 hkd).1 nn f
  obtain ⟨e1, e2⟩ := u_ix hj hlt hN
  refine W.lald (v := v) C.1 C.2.1 hc hA (fun q => by cases q) (by rw [arrV_size]; exact e2) (by rw [e1, arrV_read _ _ hlt]; exact congrArg some hv) rfl rfl hd (K G B p la e R s m args below meth c Qf C F H locs ls hR hS hL)
theorem us_cald {a nn : Nat} {f : Nat → Value} {i : Int} {v : Value} (j : Nat) (hd : uD M.cc pc .caload 1 np) (hH : h.2 a = some (.inr (2, nn, f))) (hj : i = (j : Int)) (hlt : j < nn) (hN : nn < 2147483648) (hv : f j = v) (K : uW M np l (v :: st) h k n Q) : uW M pc l (ui i :: .ref a :: st) h k n Q := by
  intro G B p la e R s m args below meth c Qf C F H locs ls hR hS hL
  obtain ⟨hd, rfl⟩ := hd
  obtain ⟨hkd, hc⟩ : u_at G a (.inr (2, nn, f)) H := (hR.2 a _ hH).2
  have hA := (C.2.2.2.2.2.2.2.2.1.2.1 2 hkd).1 nn f
  obtain ⟨e1, e2⟩ := u_ix hj hlt hN
  refine W.cald (v := v) C.1 C.2.1 hc hA (fun q => by cases q) (by rw [arrV_size]; exact e2) (by rw [e1, arrV_read _ _ hlt]; exact congrArg some hv) rfl rfl hd (K G B p la e R s m args below meth c Qf C F H locs ls hR hS hL)
theorem us_aald {a nn kd : Nat} {f : Nat → Value} {i : Int} {v : Value} (j : Nat) (hd : uD M.cc pc .aaload 1 np) (hH : h.2 a = some (.inr (kd, nn, f))) (hk3 : (u_kt kd).isReference = true) (hj : i = (j : Int)) (hlt : j < nn) (hN : nn < 2147483648) (hv : f j = v) (K : uW M np l (v :: st) h k n Q) : uW M pc l (ui i :: .ref a :: st) h k n Q := by
  intro G B p la e R s m args below meth c Qf C F H locs ls hR hS hL
  obtain ⟨hd, rfl⟩ := hd
  obtain ⟨hkd, hc⟩ : u_at G a (.inr (kd, nn, f)) H := (hR.2 a _ hH).2
  have hA := (C.2.2.2.2.2.2.2.2.1.2.1 kd hkd).1 nn f
  obtain ⟨e1, e2⟩ := u_ix hj hlt hN
  refine W.aald (v := v) C.1 C.2.1 hc hA hk3 (fun q => by cases q) (by rw [arrV_size]; exact e2) (by rw [e1, arrV_read _ _ hlt]; exact congrArg some hv) rfl rfl hd (K G B p la e R s m args below meth c Qf C F H locs ls hR hS hL)
theorem us_iast {a nn : Nat} {f : Nat → Value} {i : Int} {x : Int32} (j : Nat) (hd : uD M.cc pc .iastore 1 np) (hH : h.2 a = some (.inr (0, nn, f))) (hj : i = (j : Int)) (hlt : j < nn) (hN : nn < 2147483648) (K : uW M np l st (u_set h a (.inr (0, nn, updV f j (.int x)))) k n Q) : uW M pc l (.int x :: ui i :: .ref a :: st) h k n Q := by
  intro G B p la e R s m args below meth c Qf C F H locs ls hR hS hL
  obtain ⟨hd, rfl⟩ := hd
  obtain ⟨hkd, hc⟩ : u_at G a (.inr (0, nn, f)) H := (hR.2 a _ hH).2
  have hA := (C.2.2.2.2.2.2.2.2.1.2.1 0 hkd).1 nn f
  obtain ⟨e1, e2⟩ := u_ix hj hlt hN
  refine W.iast C.1 C.2.1 hc hA (fun q => by cases q) (by rw [arrV_size]; exact e2) rfl rfl hd fun H' f1 f2 f3 => ?_
  rw [e1, arrV_store] at f1
  exact K G B p la e R s m args below meth c Qf C F H' _ ls (hR.put hH ⟨hkd, f1⟩ f2 f3) (hS.put f2 f3 (hR.2 a _ hH).1) hL
theorem us_last {a nn : Nat} {f : Nat → Value} {i : Int} {x : Int64} (j : Nat) (hd : uD M.cc pc .lastore 1 np) (hH : h.2 a = some (.inr (1, nn, f))) (hj : i = (j : Int)) (hlt : j < nn) (hN : nn < 2147483648) (K : uW M np l st (u_set h a (.inr (1, nn, updV f j (.long x)))) k n Q) : uW M pc l (.long x :: ui i :: .ref a :: st) h k n Q := by
  intro G B p la e R s m args below meth c Qf C F H locs ls hR hS hL
  obtain ⟨hd, rfl⟩ := hd
  obtain ⟨hkd, hc⟩ : u_at G a (.inr (1, nn, f)) H := (hR.2 a _ hH).2
  have hA := (C.2.2.2.2.2.2.2.2.1.2.1 1 hkd).1 nn f
  obtain ⟨e1, e2⟩ := u_ix hj hlt hN
  refine W.last C.1 C.2.1 hc hA (fun q => by cases q) (by rw [arrV_size]; exact e2) rfl rfl hd fun H' f1 f2 f3 => ?_
  rw [e1, arrV_store] at f1
  exact K G B p la e R s m args below meth c Qf C F H' _ ls (hR.put hH ⟨hkd, f1⟩ f2 f3) (hS.put f2 f3 (hR.2 a _ hH).1) hL
theorem us_cast {a nn : Nat} {f : Nat → Value} {i : Int} {x : Int32} (j : Nat) (hd : uD M.cc pc .castore 1 np) (hH : h.2 a = some (.inr (2, nn, f))) (hj : i = (j : Int)) (hlt : j < nn) (hN : nn < 2147483648) (hx : narrow .char (.int x) = .int x) (K : uW M np l st (u_set h a (.inr (2, nn, updV f j (.int x)))) k n Q) : uW M pc l (.int x :: ui i :: .ref a :: st) h k n Q := by
  intro G B p la e R s m args below meth c Qf C F H locs ls hR hS hL
  obtain ⟨hd, rfl⟩ := hd
  obtain ⟨hkd, hc⟩ : u_at G a (.inr (2, nn, f)) H := (hR.2 a _ hH).2
  have hA := (C.2.2.2.2.2.2.2.2.1.2.1 2 hkd).1 nn f
  obtain ⟨e1, e2⟩ := u_ix hj hlt hN
  refine W.cast C.1 C.2.1 hc hA (fun q => by cases q) (by rw [arrV_size]; exact e2) rfl rfl hd fun H' f1 f2 f3 => ?_
  rw [hx, e1, arrV_store] at f1
  exact K G B p la e R s m args below meth c Qf C F H' _ ls (hR.put hH ⟨hkd, f1⟩ f2 f3) (hS.put f2 f3 (hR.2 a _ hH).1) hL
theorem us_aast {a b nn kd ci : Nat} {f : Nat → Value} {i : Int} {fs : List Value} {r : vw_C} (j : Nat) (hd : uD M.cc pc .aastore 1 np) (hH : h.2 a = some (.inr (kd, nn, f))) (hb2 : h.2 b = some (.inl (ci, fs))) (hr : u_cls[ci]? = some r) (hk3 : u_kt kd = .object r.1) (hj : i = (j : Int)) (hlt : j < nn) (hN : nn < 2147483648) (K : uW M np l st (u_set h a (.inr (kd, nn, updV f j (.ref b)))) k n Q) : uW M pc l (.ref b :: ui i :: .ref a :: st) h k n Q := by
  intro G B p la e R s m args below meth c Qf C F H locs ls hR hS hL
  obtain ⟨hd, rfl⟩ := hd
  obtain ⟨hkd, hc⟩ : u_at G a (.inr (kd, nn, f)) H := (hR.2 a _ hH).2
  have hat : ∃ r' : vw_C, u_cls[ci]? = some r' ∧ fs.length = r'.2.2 ∧ t_OB b (G.1 ci) r'.2.2 (G.2.1 ci) H (vp_V fs) := (hR.2 b _ hb2).2
  obtain ⟨r', hr', -, cell, g1, g2, g3, -⟩ := hat
  obtain rfl : r' = r := Option.some.inj (hr'.symm.trans hr)
  have hKK := C.2.2.2.2.2.2.2.2.1
  have hcls := (hKK.1 ci _ hr).2
  have hra := (hKK.2.1 kd hkd).2
  rw [hk3] at hra
  obtain ⟨kA, comp, k1, k2, k3, -⟩ := hra
  have hcomp : comp = G.1 ci := Option.some.inj (k3.symm.trans hcls.1)
  subst hcomp
  obtain ⟨kC, hkC, -⟩ := id hcls.2
  obtain ⟨e1, e2⟩ := u_ix hj hlt hN
  refine W.aast C.1 C.2.1 hc (fun q h => by cases h) (fun h => by cases h) k1 k2 rfl hkC ⟨fun q => e2 (Or.inl q), by rw [arrV_size, e1]; exact hlt⟩ g1 (fun q h => by rw [g3] at h; cases h) (by rw [g2]; exact hkC) (by rw [g2]; exact va_assign hcls) rfl rfl hd fun H' f1 f2 f3 => ?_
  rw [e1, arrV_store] at f1
  exact K G B p la e R s m args below meth c Qf C F H' _ ls (hR.put hH ⟨hkd, f1⟩ f2 f3) (hS.put f2 f3 (hR.2 a _ hH).1) hL
theorem u_growS {B : Nat} {H0 H H1 : Heap} {locs : List Loc} (hS : va_S (fun q => B ≤ q) H0 H locs) (z : H1.size = H.size + 1) (o : ∀ q : Nat, q < H.size → H1[q]? = H[q]?) : va_S (fun q => B ≤ q) H0 H1 locs :=
  ⟨Nat.le_trans hS.1 (by omega), fun x h1 h2 => (o x (Nat.lt_of_lt_of_le h1 hS.1)).trans (hS.2.1 x h1 h2), hS.2.2⟩
theorem us_newa {nn : Nat} {i : Int} {aty : ArrayType} (kd : Nat) (hd : uD M.cc pc (.newarray aty) 2 np) (hkd : kd < 3) (hty : newarray.typeOf aty = u_kt kd) (hj : i = (nn : Int)) (hN : nn * 8 ≤ 536870912) (hcell : k + 1 ≤ M.mc) (hslot : n + nn ≤ M.ms) (hw : Cond.arrayClass (newarray.typeOf aty) ∈ uw_W) (K : uW M np l (.ref h.1 :: st) (u_push h (.inr (kd, nn, fun _ => defaultValue (u_kt kd)))) (k + 1) (n + nn) Q) : uW M pc l (ui i :: st) h k n Q := by
  intro G B p la e R s m args below meth c Qf C F H locs ls hR hS hL
  obtain ⟨hd, rfl⟩ := hd
  obtain ⟨e1, e2⟩ := u_ix (nn := nn + 1) hj (Nat.lt_succ_self _) (by omega)
  have hRm := C.2.2.2.2.2.2.2.2.2.1
  have hra := (C.2.2.2.2.2.2.2.2.1.2.1 kd (by omega)).2
  refine va_newaK C.1 C.2.1 (C.2.2.2.2.2.2.2.1 _ hw) rfl hd rfl (fun q => e2 (Or.inl q)) e1 ?_ (by rw [hRm]; exact hcell) (by rw [hRm]; exact hslot) hR.1.symm fun H' cA f1 f2 f3 hA hN' => ?_
  · have : componentBytes (newarray.typeOf aty) ≤ 8 := by cases aty <;> decide
    exact Nat.le_trans (Nat.mul_le_mul_left nn this) hN
  · have hcA : cA = G.2.2 kd := by
      rw [hty] at hN'
      have : s.vm.findClass ("[" ++ (u_kt kd).toString) = some (G.2.2 kd) := by
        match kd, hkd, hra with
        | 0, _, hra => exact hra
        | 1, _, hra => exact hra
        | 2, _, hra => exact hra
      exact Option.some.inj (hN'.symm.trans this)
    subst hcA
    rw [hty] at f1
    rw [hR.1] at f1 f2 f3
    exact K G B p la e R s m args below meth c Qf C F H' _ ls (hR.push (Nat.le_trans C.2.2.2.2.2.2.2.2.2.2.1 hS.1) ⟨by omega, f1⟩ f2 f3) (u_growS hS f2 f3) hL
theorem us_anew {nn idx : Nat} {i : Int} {Cn : String} (kd : Nat) (hd : uD M.cc pc (.anewarray idx) 3 np) (hkd : kd < 7) (hty : u_kt kd = .object Cn) (hov : Cn ∈ u_over) (hj : i = (nn : Int)) (hN : nn * 8 ≤ 536870912) (hcell : k + 1 ≤ M.mc) (hslot : n + nn ≤ M.ms) (hw : Cond.classLink M.y.cls idx Cn ∈ uw_W) (K : uW M np l (.ref h.1 :: st) (u_push h (.inr (kd, nn, fun _ => .null))) (k + 1) (n + nn) Q) : uW M pc l (ui i :: st) h k n Q := by
  intro G B p la e R s m args below meth c Qf C F H locs ls hR hS hL
  obtain ⟨hd, rfl⟩ := hd
  obtain ⟨e1, e2⟩ := u_ix (nn := nn + 1) hj (Nat.lt_succ_self _) (by omega)
  have hRm := C.2.2.2.2.2.2.2.2.2.1
  have hKK := C.2.2.2.2.2.2.2.2.1
  have hra := (hKK.2.1 kd hkd).2
  rw [hty] at hra
  obtain ⟨kA0, comp0, k1, k2, k3, k4⟩ := hra
  refine W.anew C.1 C.2.1 C.2.2.2.2.2.1 (C.2.2.2.2.2.2.2.1 _ hw) (va_AO.use (hKK.2.2.2.2 _ hov)) rfl hd rfl (fun q => e2 (Or.inl q)) (by rw [e1]; omega) (by rw [hRm]; exact hcell) (by rw [e1, hRm]; exact hslot) fun cA kA comp f1 f2 f3 f4 => ?_
  rw [e1]
  generalize hH1 : H.push ({ cls := cA, slots := Array.replicate nn .null, vm := .none } : Cell) = H1
  have z1 : H1.size = H.size + 1 := by rw [← hH1, Array.size_push]
  have g1 : H1[H.size]? = some (arrV cA nn (fun _ => .null)) := by rw [← hH1, Array.getElem?_push_size, ← arrV_new]
  have o1 : ∀ q : Nat, q < H.size → H1[q]? = H[q]? := fun q hq => by rw [← hH1, Array.getElem?_push, if_neg (Nat.ne_of_lt hq)]
  have hcA : cA = G.2.2 kd := Option.some.inj (f1.symm.trans k4)
  subst hcA
  rw [← hR.1]
  exact K G B p la e R s m args below meth c Qf C F H1 _ ls (hR.push (Nat.le_trans C.2.2.2.2.2.2.2.2.2.2.1 hS.1) ⟨hkd, g1⟩ z1 o1) (u_growS hS z1 o1) hL
theorem us_new {idx ci : Nat} {r : vw_C} {fs : List Value} (hd : uD M.cc pc (.new idx) 3 np) (hr : u_cls[ci]? = some r) (hw : Cond.classLink M.y.cls idx r.1 ∈ uw_W) (hfs : fs = (List.range r.2.2).map (fun j => defaultValue (uf_ty (u_fl ci) j))) (hcell : k + 1 ≤ M.mc) (hslot : n + r.2.2 ≤ M.ms) (K : uW M np l (.ref h.1 :: st) (u_push h (.inl (ci, fs))) (k + 1) (n + r.2.2) Q) : uW M pc l st h k n Q := by
  intro G B p la e R s m args below meth c Qf C F H locs ls hR hS hL
  obtain ⟨hd, rfl⟩ := hd
  have C0 := C
  obtain ⟨hx, hb, -, -, -, hown, -, hts, hK, hRm, hB, -⟩ := C
  obtain ⟨hin, hnm, hty, hins, hini⟩ := (uc_at hr).1
  have hKn := hK.1 ci _ hr
  have hinW : ∀ w ∈ u_ws r.1 r.2.1 r.2.2, w ∈ uw_W := fun w hw => by
    obtain ⟨j, hj, rfl⟩ := List.mem_map.mp hw
    rw [(uc_at hr).2.1]
    exact hin j (List.mem_range.mp hj)
  refine W.newcK hx hb hown (hts _ hw) (hts _ hins) (hts _ hini) rfl hd (by rw [hRm]; exact hcell) (by rw [hRm]; exact hslot) hKn.2.1 hR.1.symm fun H1 kC hkC e1 z1 o1 => ?_
  rw [hR.1] at e1 z1 o1
  have hlen : fs.length = r.2.2 := by rw [hfs, List.length_map, List.length_range]
  refine K G B p la e R s m args below meth c Qf C0 F H1 _ ls (hR.push (Nat.le_trans hB hS.1) ⟨r, hr, hlen, (u_born (uf_ty (u_fl ci)) hts hinW hKn hkC e1 (fun j hj => by rw [(uc_at hr).2.1]; exact hty j hj)).to (fun j hj => ?_)⟩ z1 o1) (u_growS hS z1 o1) hL
  show _ = vp_V fs j
  unfold vp_V
  rw [List.getD_eq_getElem?_getD, hfs, List.getElem?_map, List.getElem?_range hj]
  rfl
end UA
end
section
/-! calls and returns of the abstract machine -/
abbrev u_ws' (M : uM) : List Cond := Cond.code M.y M.cc M.nL M.ret :: uw_W
def u_Pc (G : uG) (B : Nat) (as : List Value) (h : uHp) : Array Value → State → Prop := fun v U => v = as.toArray ∧ u_Rel G B h U.heap ∧ u_KK G U ∧ B ≤ U.heap.size
def u_Qc (G : uG) (B : Nat) (Q : uPs) : Array Value → State → Outcome → State → Prop := fun _ st o t => (∃ (v : Option Value) (h' : uHp), o = .returned v ∧ Q v h' ∧ u_Rel G B h' t.heap) ∧ va_F (fun q => B ≤ q) st t
theorem u_met {G : uG} {B : Nat} {la : Launch} {M : uM} {as : List Value} {h : uHp} {Q : uPs} (hy : plainName M.y.cls = true) (hex : M.ex = none) (hd9 : M.d < 9) (hlen : (lg_sl as).length ≤ M.nL) (K : uW M 0 (u_ent M.nL as) [] h 0 0 Q) : Met la M.y (u_ws' M) (u_rm M) (u_Pc G B as h) (u_Qc G B Q) M.mc M.ms (fun q => B ≤ q) := by
  refine Met.ofW (cc := M.cc) (maxL := M.nL) (ret := M.ret) hy rfl ?_
  intro p e s m args below meth c s₁ X hml hv
  obtain ⟨rfl, hR, hK, hB⟩ := hv
  have hts := atoms_spec (ws := u_ws' M) X.pre
  have hS : va_S (fun q : Nat => B ≤ q) s.heap s.heap [] := va_S.rf
  rw [lg_entry_eq]
  refine K G B p la e (u_rm M) s m as.toArray below meth c _ ⟨X.exec, X.bytes, X.returns, X.notSynchronized, hml, findClass_of_methodNamed X.named, (name_of_methodNamed X.named X.method).1, fun w hw => hts w (List.mem_cons_of_mem _ hw), hK, rfl, hB, fun q hq => by rw [hex] at hq; cases hq⟩ ?_ s.heap [] _ hR hS (u_LR.entry as hlen)
  intro H locs ls h' pc k n v hR' hS' hk hn hQ hret
  refine W.widen hk hn ?_
  have hq : ∀ t : State, t.heap = H → s.WarmedH t.vm → u_Qc G B Q as.toArray s (.returned v) t := fun t ht _ => ⟨⟨v, h', rfl, hQ, by rw [ht]; exact hR'⟩, hS'.F ht⟩
  have hlk := X.notSynchronized
  match v, hret, hq with
  | none, ⟨h1, h2⟩, hq => exact W.vret X.exec X.bytes (X.returns.trans h2) hq hS'.2.2 h1 hlk
  | some (.int x), ⟨h1, ty, h2, h3⟩, hq => exact W.zret X.exec X.bytes (X.returns.trans h2) h3 hq hS'.2.2 h1 hlk
  | some (.long x), ⟨h1, h2⟩, hq => exact W.lret X.exec X.bytes (X.returns.trans h2) hq hS'.2.2 h1 hlk
  | some (.ref a), ⟨h1, C, h2⟩, hq => exact W.aret X.exec X.bytes (X.returns.trans h2) (Or.inl ⟨C, rfl⟩) (Or.inr ⟨a, rfl⟩) hq hS'.2.2 h1 hlk
/-- what a method's own words are, with its parameters -/
def u_MO (M : uM) (np : Nat) : Prop := plainName M.y.cls = true ∧ M.ex = none ∧ M.d < 9 ∧ M.nL ≤ 21 ∧ (M.y.cls ≠ "java/lang/invoke/MethodHandle" ∧ M.y.cls ≠ "java/lang/invoke/VarHandle") ∧ (parseMethodDescriptor M.y.desc).map (fun d => d.parameters.length) = some np ∧ Cond.code M.y M.cc M.nL M.ret ∈ uw_W ∧ Cond.initialized M.y.cls ∈ uw_W
theorem u_room {M M' : uM} (h : M'.d < M.d) (h9 : M'.d < 9) (hn : M'.nL ≤ 21) : (u_rm M').frames + 1 ≤ (u_rm M).frames ∧ 8 + (M'.nL + 11) + (u_rm M').locals ≤ (u_rm M).locals := by
  simp only [u_rm, u_loc]
  by_cases hm : M.d < 9
  · simp only [h9, hm, if_true]
    omega
  · simp only [h9, hm, if_true, if_false]
    omega
theorem u_goodIn {M' : uM} (hc : Cond.code M'.y M'.cc M'.nL M'.ret ∈ uw_W) : GoodIn uw_W (u_ws' M') := by
  intro w hw
  have hm : w ∈ uw_W := by
    rcases List.mem_cons.mp hw with rfl | hw
    · exact hc
    · exact hw
  exact ⟨hm, good_of_word (uw_good w hm)⟩
def u_ko (M : uM) (pc : Nat) (l st : List Value) (k n : Nat) (Q : uPs) : uPs := fun v h => match v with
  | none => uW M pc l st h k n Q
  | some x => uW M pc l (x :: st) h k n Q
theorem u_ko_1 {M : uM} {pc : Nat} {l st : List Value} {k n : Nat} {Q : uPs} {h : uHp} {x : Value} (K : uW M pc l (x :: st) h k n Q) : u_ko M pc l st k n Q (some x) h := K
theorem u_ko_0 {M : uM} {pc : Nat} {l st : List Value} {k n : Nat} {Q : uPs} {h : uHp} (K : uW M pc l st h k n Q) : u_ko M pc l st k n Q none h := K
theorem u_blind (G : uG) (B : Nat) (as : List Value) (h : uHp) : FrameBlind (u_Pc G B as h) := fun a U g mk q => ⟨q.1, q.2.1, q.2.2.1.same (u := U) (U := U.calling g mk a) rfl, q.2.2.2⟩
section UC
variable {M M' : uM} {pc np tg : Nat} {l l' st : List Value} {h : uHp} {k n : Nat} {Q : uPs}
/-- behind a run of a callee -/
theorem u_after {G : uG} {B : Nat} {p : Program} {la : Launch} {e : Env} {R : Room} {s : State} {m : MethodId} {args : Array Value} {below : List Frame} {meth : Method} {c : Code} {Qf : State → Prop} {H : Heap} {locs : List Loc} {ls : Array Slot} {st0 rest : List Value} {a : Array Value}
    (hr : va_Run p la e R s m args below meth c H locs k n M'.mc M'.ms (F0 m pc ls st0) rest (u_Qc G B (u_ko M (pc + 3) l rest (k + M'.mc) (n + M'.ms) Q) a) (fun q => B ≤ q)) (C : u_Ctx G B M p la e R s m args below meth c) (F : u_Fin G B M p la e R s m args below meth c Q Qf)
    (hS : va_S (fun q => B ≤ q) s.heap H locs) (hL : u_LR M.nL l ls) : W p la e R s m args below meth c H locs k n Qf (F0 m pc ls st0) := by
  intro T hT X
  obtain ⟨v, st₀, t, T', L, h0, X', hLf, e1, e2, ⟨⟨v', h', hv, hQ, hR'⟩, hz, hk⟩, st⟩ := hr T hT X
  cases hv
  rw [h0] at hz hk
  have hS' : va_S (fun q => B ≤ q) s.heap T'.heap (locs ++ L) := by
    refine ⟨Nat.le_trans hS.1 (by rw [e1]; exact hz), fun q h1 h2 => ?_, fun q hq => ?_⟩
    · rw [e1, hk q (Nat.lt_of_lt_of_le h1 hS.1) h2]
      exact hS.2.1 q h1 h2
    · rcases List.mem_append.mp hq with h | h
      · exact hS.2.2 q h
      · exact hLf q h
  have hW : W p la e R s m args below meth c T'.heap (locs ++ L) (k + M'.mc) (n + M'.ms) Qf (F0 m (pc + 3) ls (v.toList ++ rest)) := by
    cases v with
    | none => exact hQ G B p la e R s m args below meth c Qf C F T'.heap _ ls (by rw [e1]; exact hR') hS' hL
    | some x => exact hQ G B p la e R s m args below meth c Qf C F T'.heap _ ls (by rw [e1]; exact hR') hS' hL
  obtain ⟨t2, a1, b1⟩ := hW T' rfl X'
  exact ⟨t2, st t2 a1, b1⟩
theorem u_pre {G : uG} {B : Nat} {s : State} {as : List Value} {H : Heap} (hR : u_Rel G B h H) (hK : u_KK G s) (hB : B ≤ H.size) : ∀ U : State, U.heap = H → s.WarmedH U.vm → u_Pc G B as h as.toArray U := fun U hU hW => ⟨rfl, by rw [hU]; exact hR, hK.warm hW, by rw [hU]; exact hB⟩
/-- an instance method -/
theorem us_callV {idx b ci nargs : Nat} {fs As rest : List Value} {r : vw_C} (hd : uD M.cc pc (.invokevirtual idx) 3 np) (hst : st = As.reverse ++ .ref b :: rest) (hmo : u_MO M' nargs) (hna : As.length = nargs) (hdd : M'.d < M.d)
    (hlk : Cond.methodLink M.y.cls idx M'.y ∈ uw_W) (hin : Cond.instanceMethod M'.y ∈ uw_W) (hsel : Cond.selects M'.y.cls M'.y M'.y ∈ uw_W) (hH : h.2 b = some (.inl (ci, fs))) (hr : u_cls[ci]? = some r) (hrc : r.1 = M'.y.cls)
    (hcat : (rest.map fun v => v.category).sum ≤ 8) (hc : k + M'.mc ≤ M.mc) (hs : n + M'.ms ≤ M.ms) (hlen : (lg_sl (.ref b :: As)).length ≤ M'.nL) (he : u_ent M'.nL (.ref b :: As) = l') (K : uW M' 0 l' [] h 0 0 (u_ko M np l rest (k + M'.mc) (n + M'.ms) Q)) : uW M pc l st h k n Q := by
  intro G B p la e R s m args below meth c Qf C F H locs ls hR hS hL
  obtain ⟨hd, rfl⟩ := hd
  subst hst he
  obtain ⟨m1, m2, m3, m4, m5, m6, m7, m8⟩ := hmo
  have hM := u_met (G := G) (B := B) (la := la) (as := .ref b :: As) m1 m2 m3 hlen K
  have hts := C.2.2.2.2.2.2.2.1
  have hKK := C.2.2.2.2.2.2.2.2.1
  have hRm := C.2.2.2.2.2.2.2.2.2.1
  subst hRm
  have hG : GoodIn uw_W (wsV M.y.cls idx M'.y.cls M'.y (u_ws' M')) := by
    intro w hw
    have hw' : w ∈ ([.methodLink M.y.cls idx M'.y, .instanceMethod M'.y, .selects M'.y.cls M'.y M'.y, .initialized M'.y.cls] : List Cond) ++ u_ws' M' := hw
    rcases List.mem_append.mp hw' with hw' | hw'
    · have hm : w ∈ uw_W := by
        simp only [List.mem_cons, List.not_mem_nil, or_false] at hw'
        rcases hw' with rfl | rfl | rfl | rfl
        · exact hlk
        · exact hin
        · exact hsel
        · exact m8
      exact ⟨hm, good_of_word (uw_good w hm)⟩
    · exact u_goodIn m7 w hw'
  obtain ⟨r', hr', -, cell, g1, g2, g3, -⟩ : ∃ r' : vw_C, u_cls[ci]? = some r' ∧ fs.length = r'.2.2 ∧ t_OB b (G.1 ci) r'.2.2 (G.2.1 ci) H (vp_V fs) := (hR.2 b _ hH).2
  have hcl : s.vm.findClass M'.y.cls = some cell.cls := by rw [g2, ← hrc]; exact (hKK.1 ci _ hr).2.1
  refine u_after (M' := M') (va_runV (nL := M.nL) (own := M.y.cls) ⟨C.1, C.2.1, C.2.2.2.2.1, C.2.2.2.2.2.1, hts⟩ hM (cwV nargs hts hG rfl rfl rfl ⟨rfl, m5.1, m5.2, m6⟩ (u_room hdd m3 m4)) ⟨u_blind G B _ h, ⟨cell, g1, by rw [g3]; rfl, hcl⟩, u_pre hR hKK (Nat.le_trans C.2.2.2.2.2.2.2.2.2.2.1 hS.1)⟩ rfl hna hL.1 rfl (lv_room hcat) hd ⟨hc, hs⟩) C F hS hL
/-- a static method of the class itself -/
theorem us_callS {idx nargs : Nat} {As rest : List Value} (hd : uD M.cc pc (.invokestatic idx) 3 np) (hst : st = As.reverse ++ rest) (hmo : u_MO M' nargs) (hna : As.length = nargs) (hdd : M'.d < M.d)
    (hlk : Cond.methodLink M.y.cls idx M'.y ∈ uw_W ∨ ∃ host, (M.y.cls, idx, M'.y, host) ∈ u_nestM) (hin : Cond.static M'.y ∈ uw_W)
    (hcat : (rest.map fun v => v.category).sum ≤ 8) (hc : k + M'.mc ≤ M.mc) (hs : n + M'.ms ≤ M.ms) (hlen : (lg_sl As).length ≤ M'.nL) (he : u_ent M'.nL As = l') (K : uW M' 0 l' [] h 0 0 (u_ko M np l rest (k + M'.mc) (n + M'.ms) Q)) : uW M pc l st h k n Q := by
  intro G B p la e R s m args below meth c Qf C F H locs ls hR hS hL
  obtain ⟨hd, rfl⟩ := hd
  subst hst he
  obtain ⟨m1, m2, m3, m4, m5, m6, m7, m8⟩ := hmo
  have hM := u_met (G := G) (B := B) (la := la) (as := As) m1 m2 m3 hlen K
  have hts := C.2.2.2.2.2.2.2.1
  have hKK := C.2.2.2.2.2.2.2.2.1
  have hRm := C.2.2.2.2.2.2.2.2.2.1
  subst hRm
  have hp : PreS s H (u_Pc G B As h) As := ⟨u_blind G B _ h, u_pre hR hKK (Nat.le_trans C.2.2.2.2.2.2.2.2.2.2.1 hS.1)⟩
  rcases hlk with hlk | ⟨host, hlk⟩
  · refine u_after (M' := M') (va_runS (nL := M.nL) (own := M.y.cls) ⟨C.1, C.2.1, C.2.2.2.2.1, C.2.2.2.2.2.1, hts⟩ hM ⟨callB_of nargs hts (u_goodIn m7) rfl rfl rfl (hts _ m8) (hts _ hlk) ⟨m5.1, m5.2, m6⟩ (u_room hdd m3 m4), hts _ hin⟩ hp rfl hna hL.1 rfl (lv_room hcat) hd ⟨hc, hs⟩) C F hS hL
  · refine u_after (M' := M') (va_runSN (nL := M.nL) (own := M.y.cls) (host := host) ⟨C.1, C.2.1, C.2.2.2.2.1, C.2.2.2.2.2.1, hts⟩ hM ⟨va_cnB nargs hts (u_goodIn m7) rfl rfl rfl (hKK.2.2.2.1 _ hlk) (hts _ m8) ⟨m5.1, m5.2, m6⟩ (u_room hdd m3 m4), hts _ hin, trivial⟩ hp rfl hna hL.1 rfl (lv_room hcat) hd ⟨hc, hs⟩) C F hS hL
/-- a constructor -/
theorem us_callI {idx b nargs : Nat} {As rest : List Value} (hd : uD M.cc pc (.invokespecial idx) 3 np) (hst : st = As.reverse ++ .ref b :: rest) (hmo : u_MO M' nargs) (hna : As.length = nargs) (hdd : M'.d < M.d) (hret : M'.ret = none) (hnm : M'.y.name = "<init>")
    (hlk : Cond.methodLink M.y.cls idx M'.y ∈ uw_W ∨ ∃ host, (M.y.cls, idx, M'.y, host) ∈ u_nestM) (hin : Cond.instanceMethod M'.y ∈ uw_W)
    (hcat : (rest.map fun v => v.category).sum ≤ 8) (hc : k + M'.mc ≤ M.mc) (hs : n + M'.ms ≤ M.ms) (hlen : (lg_sl (.ref b :: As)).length ≤ M'.nL) (he : u_ent M'.nL (.ref b :: As) = l') (K : uW M' 0 l' [] h 0 0 (u_ko M np l rest (k + M'.mc) (n + M'.ms) Q)) : uW M pc l st h k n Q := by
  intro G B p la e R s m args below meth c Qf C F H locs ls hR hS hL
  obtain ⟨hd, rfl⟩ := hd
  subst hst he
  obtain ⟨m1, m2, m3, m4, m5, m6, m7, m8⟩ := hmo
  have hM := u_met (G := G) (B := B) (la := la) (as := .ref b :: As) m1 m2 m3 hlen K
  have hts := C.2.2.2.2.2.2.2.1
  have hKK := C.2.2.2.2.2.2.2.2.1
  have hRm := C.2.2.2.2.2.2.2.2.2.1
  subst hRm
  rw [hret] at m7
  have hw : u_ws' M' = Cond.code M'.y M'.cc M'.nL none :: uw_W := by simp only [u_ws', hret]
  have hG : GoodIn uw_W (u_ws' M') := by
    refine u_goodIn ?_
    rw [hret]
    exact m7
  have hp : PreS s H (u_Pc G B (.ref b :: As) h) (.ref b :: As) := ⟨u_blind G B _ h, u_pre hR hKK (Nat.le_trans C.2.2.2.2.2.2.2.2.2.2.1 hS.1)⟩
  rcases hlk with hlk | ⟨host, hlk⟩
  · refine u_after (M' := M') (va_runI (nL := M.nL) (own := M.y.cls) ⟨C.1, C.2.1, C.2.2.2.2.1, C.2.2.2.2.2.1, hts⟩ hM ⟨callB_of nargs hts hG hw rfl rfl (hts _ m8) (hts _ hlk) ⟨m5.1, m5.2, m6⟩ (u_room hdd m3 m4), hnm, hts _ hin⟩ hp rfl hna hL.1 rfl (lv_room hcat) hd ⟨hc, hs⟩) C F hS hL
  · refine u_after (M' := M') (va_runIN (nL := M.nL) (own := M.y.cls) (host := host) ⟨C.1, C.2.1, C.2.2.2.2.1, C.2.2.2.2.2.1, hts⟩ hM ⟨va_cnB nargs hts hG hw rfl rfl (hKK.2.2.2.1 _ hlk) (hts _ m8) ⟨m5.1, m5.2, m6⟩ (u_room hdd m3 m4), hnm, hts _ hin⟩ hp rfl hna hL.1 rfl (lv_room hcat) hd ⟨hc, hs⟩) C F hS hL
theorem us_objInit {idx a : Nat} (hd : uD M.cc pc (.invokespecial idx) 3 np) (hlk : Cond.methodLink M.y.cls idx Lib.objectInit ∈ uw_W) (hin : Cond.instanceMethod Lib.objectInit ∈ uw_W) (hco : Cond.code Lib.objectInit ⟨#[0xb1]⟩ 1 none ∈ uw_W) (hd1 : 1 ≤ M.d) (hcat : (st.map fun v => v.category).sum ≤ 8) (K : uW M np l st h k n Q) : uW M pc l (.ref a :: st) h k n Q := by
  intro G B p la e R s m args below meth c Qf C F H locs ls hR hS hL
  obtain ⟨hd, rfl⟩ := hd
  have hts := C.2.2.2.2.2.2.2.1
  have hRm := C.2.2.2.2.2.2.2.2.2.1
  subst hRm
  have hr : 1 ≤ (u_rm M).frames ∧ 2 * 0 + (st.map fun v => v.category).sum + 12 ≤ (u_rm M).locals := by
    simp only [u_rm, u_loc]
    split <;> omega
  exact W.objInit C.1 C.2.1 C.2.2.2.2.2.1 (hts _ hlk) (hts _ hin) (hts _ hco) rfl (hL.1.trans C.2.2.2.2.1.symm) rfl hd hr.1 hr.2 (K G B p la e (u_rm M) s m args below meth c Qf C F H locs ls hR hS hL)
theorem us_max {idx : Nat} {x y : Int} (hd : uD M.cc pc (.invokestatic idx) 3 np) (hlk : Cond.methodLink M.y.cls idx Lib.Math.max.name ∈ uw_W) (hst : Cond.static Lib.Math.max.name ∈ uw_W) (hini : Cond.initialized "java/lang/Math" ∈ uw_W) (hco : Cond.code Lib.Math.max.name Lib.Math.max.code 2 (some .int) ∈ uw_W) (hd1 : 1 ≤ M.d) (hcat : (st.map fun v => v.category).sum ≤ 8) (hc : k ≤ M.mc) (hs : n ≤ M.ms) (r : -2147483648 ≤ x ∧ x ≤ 2147483647 ∧ -2147483648 ≤ y ∧ y ≤ 2147483647) (K : uW M np l (ui (if x < y then y else x) :: st) h k n Q) : uW M pc l (ui y :: ui x :: st) h k n Q := by
  intro G B p la e R s m args below meth c Qf C F H locs ls hR hS hL
  obtain ⟨hd, rfl⟩ := hd
  have hts := C.2.2.2.2.2.2.2.1
  have hRm := C.2.2.2.2.2.2.2.2.2.1
  subst hRm
  have hr : 1 ≤ (u_rm M).frames ∧ (st.map fun v => v.category).sum + 13 ≤ (u_rm M).locals := by
    simp only [u_rm, u_loc]
    split <;> omega
  refine va_mmax C.1 C.2.1 (C.2.2.2.2.1.trans hL.1.symm) C.2.2.2.2.2.1 (hts _ hlk) (hts _ hst) (hts _ hini) (hts _ hco) hr.1 hr.2 hc hs hd ?_
  have he : (if Int32.ofInt x < Int32.ofInt y then Int32.ofInt y else Int32.ofInt x) = Int32.ofInt (if x < y then y else x) := by
    have hi : (Int32.ofInt x < Int32.ofInt y) ↔ x < y := by rw [Int32.lt_iff_toInt_lt, u_rng r.1 r.2.1, u_rng r.2.2.1 r.2.2.2]
    by_cases hxy : x < y
    · rw [if_pos (hi.mpr hxy), if_pos hxy]
    · rw [if_neg (fun q => hxy (hi.mp q)), if_neg hxy]
  rw [he]
  exact K G B p la e (u_rm M) s m args below meth c Qf C F H locs ls hR hS hL
theorem us_min {idx : Nat} {x y : Int} (hd : uD M.cc pc (.invokestatic idx) 3 np) (hlk : Cond.methodLink M.y.cls idx Lib.Math.min.name ∈ uw_W) (hst : Cond.static Lib.Math.min.name ∈ uw_W) (hini : Cond.initialized "java/lang/Math" ∈ uw_W) (hco : Cond.code Lib.Math.min.name Lib.Math.min.code 2 (some .int) ∈ uw_W) (hd1 : 1 ≤ M.d) (hcat : (st.map fun v => v.category).sum ≤ 8) (hc : k ≤ M.mc) (hs : n ≤ M.ms) (r : -2147483648 ≤ x ∧ x ≤ 2147483647 ∧ -2147483648 ≤ y ∧ y ≤ 2147483647) (K : uW M np l (ui (if y < x then y else x) :: st) h k n Q) : uW M pc l (ui y :: ui x :: st) h k n Q := by
  intro G B p la e R s m args below meth c Qf C F H locs ls hR hS hL
  obtain ⟨hd, rfl⟩ := hd
  have hts := C.2.2.2.2.2.2.2.1
  have hRm := C.2.2.2.2.2.2.2.2.2.1
  subst hRm
  have hr : 1 ≤ (u_rm M).frames ∧ (st.map fun v => v.category).sum + 13 ≤ (u_rm M).locals := by
    simp only [u_rm, u_loc]
    split <;> omega
  refine va_mmin C.1 C.2.1 (C.2.2.2.2.1.trans hL.1.symm) C.2.2.2.2.2.1 (hts _ hlk) (hts _ hst) (hts _ hini) (hts _ hco) hr.1 hr.2 hc hs hd ?_
  have he : (if Int32.ofInt y < Int32.ofInt x then Int32.ofInt y else Int32.ofInt x) = Int32.ofInt (if y < x then y else x) := by
    have hi : (Int32.ofInt y < Int32.ofInt x) ↔ y < x := by rw [Int32.lt_iff_toInt_lt, u_rng r.1 r.2.1, u_rng r.2.2.1 r.2.2.2]
    by_cases hxy : y < x
    · rw [if_pos (hi.mpr hxy), if_pos hxy]
    · rw [if_neg (fun q => hxy (hi.mp q)), if_neg hxy]
  rw [he]
  exact K G B p la e (u_rm M) s m args below meth c Qf C F H locs ls hR hS hL
/-! returns -/
theorem us_retv {v : Option Value} (hk : k ≤ M.mc) (hn : n ≤ M.ms) (hr : u_ret M pc v) (hst : st = v.toList) (hQ : Q v h) : uW M pc l st h k n Q := by
  intro G B p la e R s m args below meth c Qf C F H locs ls hR hS hL
  subst hst
  exact F H locs ls h pc k n v hR hS hk hn hQ hr
theorem us_return (hd : uD M.cc pc .return_ 1 np) (hr : M.ret = none) (hk : k ≤ M.mc) (hn : n ≤ M.ms) (hQ : Q none h) : uW M pc l [] h k n Q := us_retv hk hn (v := none) ⟨hd.1, hr⟩ rfl hQ
theorem us_ireturn {x : Int32} (hd : uD M.cc pc .ireturn 1 np) (hr : M.ret = some .int) (hk : k ≤ M.mc) (hn : n ≤ M.ms) (hQ : Q (some (.int x)) h) : uW M pc l [.int x] h k n Q := us_retv hk hn (v := some (.int x)) ⟨hd.1, .int, hr, rfl⟩ rfl hQ
theorem us_zreturn {b : Bool} (hd : uD M.cc pc .ireturn 1 np) (hr : M.ret = some .boolean) (hk : k ≤ M.mc) (hn : n ≤ M.ms) (hQ : Q (some (ub b)) h) : uW M pc l [ub b] h k n Q := us_retv hk hn (v := some (ub b)) ⟨hd.1, .boolean, hr, by cases b <;> decide⟩ rfl hQ
theorem us_lreturn {x : Int64} (hd : uD M.cc pc .lreturn 1 np) (hr : M.ret = some .long) (hk : k ≤ M.mc) (hn : n ≤ M.ms) (hQ : Q (some (.long x)) h) : uW M pc l [.long x] h k n Q := us_retv hk hn (v := some (.long x)) ⟨hd.1, hr⟩ rfl hQ
theorem us_areturn {a : Nat} {Cn : String} (hd : uD M.cc pc .areturn 1 np) (hr : M.ret = some (.object Cn)) (hk : k ≤ M.mc) (hn : n ≤ M.ms) (hQ : Q (some (.ref a)) h) : uW M pc l [.ref a] h k n Q := us_retv hk hn (v := some (.ref a)) ⟨hd.1, Cn, hr⟩ rfl hQ
end UC
end
section
/-! the methods: name, bytes, locals, what they return; rank; what they make -/
abbrev mCod_rowAt : uM := (⟨"UnmarkedPages$Codes", "rowAt", "(I)LUnmarkedPages$Row;"⟩, prog_2_method_3_code, 2, (some ((.object "UnmarkedPages$Row") : FieldType)), (0, 0, 0), none)
abbrev mCod_bitsOfCode : uM := (⟨"UnmarkedPages$Codes", "bitsOfCode", "(I)I"⟩, prog_2_method_6_code, 3, (some (.int : FieldType)), (0, 0, 0), none)
abbrev mFrl_size : uM := (⟨"UnmarkedPages$FrontList", "size", "()I"⟩, prog_3_method_2_code, 1, (some (.int : FieldType)), (0, 0, 0), none)
abbrev mFrl_clear : uM := (⟨"UnmarkedPages$FrontList", "clear", "()V"⟩, prog_3_method_3_code, 1, none, (0, 0, 0), none)
abbrev mFrl_at : uM := (⟨"UnmarkedPages$FrontList", "at", "(I)J"⟩, prog_3_method_4_code, 2, (some (.long : FieldType)), (0, 0, 0), none)
abbrev mFrl_placeOf : uM := (⟨"UnmarkedPages$FrontList", "placeOf", "(J)I"⟩, prog_3_method_5_code, 4, (some (.int : FieldType)), (0, 0, 0), none)
abbrev mKno_namesIn : uM := (⟨"UnmarkedPages$Known", "namesIn", "(I)LUnmarkedPages$FrontList;"⟩, prog_4_method_3_code, 2, (some ((.object "UnmarkedPages$FrontList") : FieldType)), (0, 0, 0), none)
abbrev mRea_hasFault : uM := (⟨"UnmarkedPages$Reader", "hasFault", "()Z"⟩, prog_7_method_2_code, 1, (some (.boolean : FieldType)), (0, 0, 0), none)
abbrev mRea_tell : uM := (⟨"UnmarkedPages$Reader", "tell", "(III)V"⟩, prog_7_method_15_code, 4, none, (0, 0, 0), none)
abbrev mRow_size : uM := (⟨"UnmarkedPages$Row", "size", "()I"⟩, prog_8_method_2_code, 1, (some (.int : FieldType)), (0, 0, 0), none)
abbrev mRow_clear : uM := (⟨"UnmarkedPages$Row", "clear", "()V"⟩, prog_8_method_3_code, 1, none, (0, 0, 0), none)
abbrev mRow_at : uM := (⟨"UnmarkedPages$Row", "at", "(I)I"⟩, prog_8_method_4_code, 2, (some (.int : FieldType)), (0, 0, 0), none)
abbrev mRow_add : uM := (⟨"UnmarkedPages$Row", "add", "(I)V"⟩, prog_8_method_5_code, 2, none, (0, 0, 0), none)
abbrev mRow_put : uM := (⟨"UnmarkedPages$Row", "put", "(II)V"⟩, prog_8_method_6_code, 3, none, (0, 0, 0), none)
abbrev mRow_fill : uM := (⟨"UnmarkedPages$Row", "fill", "(I)V"⟩, prog_8_method_7_code, 3, none, (0, 0, 0), none)
abbrev mRow_last : uM := (⟨"UnmarkedPages$Row", "last", "()I"⟩, prog_8_method_8_code, 1, (some (.int : FieldType)), (0, 0, 0), none)
abbrev mRow_removeLast : uM := (⟨"UnmarkedPages$Row", "removeLast", "()V"⟩, prog_8_method_9_code, 1, none, (0, 0, 0), none)
abbrev mRow_placeOf : uM := (⟨"UnmarkedPages$Row", "placeOf", "(I)I"⟩, prog_8_method_10_code, 3, (some (.int : FieldType)), (0, 0, 0), none)
abbrev mRow_countOf : uM := (⟨"UnmarkedPages$Row", "countOf", "(I)I"⟩, prog_8_method_11_code, 4, (some (.int : FieldType)), (0, 0, 0), none)
abbrev mSta_hasPage : uM := (⟨"UnmarkedPages$State", "hasPage", "(I)Z"⟩, prog_9_method_6_code, 2, (some (.boolean : FieldType)), (0, 0, 0), none)
abbrev mSta_pageAt : uM := (⟨"UnmarkedPages$State", "pageAt", "(I)LUnmarkedPages$Page;"⟩, prog_9_method_7_code, 2, (some ((.object "UnmarkedPages$Page") : FieldType)), (0, 0, 0), none)
abbrev mSta_bringToFront : uM := (⟨"UnmarkedPages$State", "bringToFront", "(I)V"⟩, prog_9_method_9_code, 4, none, (0, 0, 0), none)
abbrev mUmp_codesOf : uM := (⟨"UnmarkedPages", "codesOf", "(I)LUnmarkedPages$Codes;"⟩, prog_1_method_24_code, 2, (some ((.object "UnmarkedPages$Codes") : FieldType)), (0, 0, 0), none)
abbrev mUmp_isName : uM := (⟨"UnmarkedPages", "isName", "(I)Z"⟩, prog_1_method_25_code, 1, (some (.boolean : FieldType)), (0, 0, 0), none)
abbrev mUmp_isNameLetter : uM := (⟨"UnmarkedPages", "isNameLetter", "(I)Z"⟩, prog_1_method_26_code, 1, (some (.boolean : FieldType)), (0, 0, 0), none)
abbrev mMod_in : uM := (⟨"UnmarkedPagesModel", "in", "(III)Z"⟩, prog_11_method_2_code, 3, (some (.boolean : FieldType)), (0, 0, 0), none)
abbrev mMod_record : uM := (⟨"UnmarkedPagesModel", "record", "()V"⟩, prog_11_method_5_code, 2, none, (0, 0, 0), none)
abbrev mMod_box : uM := (⟨"UnmarkedPagesModel", "box", "(II)I"⟩, prog_11_method_6_code, 3, (some (.int : FieldType)), (0, 0, 0), none)
abbrev mMod_boxes : uM := (⟨"UnmarkedPagesModel", "boxes", "(III)V"⟩, prog_11_method_7_code, 4, none, (0, 0, 0), none)
abbrev mMod_fails : uM := (⟨"UnmarkedPagesModel", "fails", "(III)Z"⟩, prog_11_method_8_code, 4, (some (.boolean : FieldType)), (0, 0, 0), none)
abbrev mMod_steps : uM := (⟨"UnmarkedPagesModel", "steps", "(II)V"⟩, prog_11_method_10_code, 3, none, (0, 0, 0), none)
abbrev mMod_rankOf : uM := (⟨"UnmarkedPagesModel", "rankOf", "(III)I"⟩, prog_11_method_12_code, 10, (some (.int : FieldType)), (0, 0, 0), none)
abbrev mMod_takesText : uM := (⟨"UnmarkedPagesModel", "takesText", "()V"⟩, prog_11_method_18_code, 2, none, (0, 0, 0), none)
abbrev mMod_forgets : uM := (⟨"UnmarkedPagesModel", "forgets", "()V"⟩, prog_11_method_20_code, 2, none, (0, 0, 0), none)
abbrev mMod_codes : uM := (⟨"UnmarkedPagesModel", "codes", "(II)V"⟩, prog_11_method_21_code, 3, none, (0, 0, 0), none)
abbrev mMod_isWord : uM := (⟨"UnmarkedPagesModel", "isWord", "(III)Z"⟩, prog_11_method_24_code, 6, (some (.boolean : FieldType)), (0, 0, 0), none)
abbrev mMod_bitsOf : uM := (⟨"UnmarkedPagesModel", "bitsOf", "(I)I"⟩, prog_11_method_28_code, 3, (some (.int : FieldType)), (0, 0, 0), none)
abbrev mMod_rules : uM := (⟨"UnmarkedPagesModel", "rules", "()I"⟩, prog_11_method_32_code, 3, (some (.int : FieldType)), (0, 0, 0), none)
abbrev mMod_type : uM := (⟨"UnmarkedPagesModel", "type", "(C)I"⟩, prog_11_method_37_code, 2, (some (.int : FieldType)), (0, 0, 0), none)
abbrev mMod_clearText : uM := (⟨"UnmarkedPagesModel", "clearText", "()I"⟩, prog_11_method_38_code, 2, (some (.int : FieldType)), (0, 0, 0), none)
abbrev mMod_undo : uM := (⟨"UnmarkedPagesModel", "undo", "()I"⟩, prog_11_method_40_code, 2, (some (.int : FieldType)), (0, 0, 0), none)
abbrev mMod_keep : uM := (⟨"UnmarkedPagesModel", "keep", "()I"⟩, prog_11_method_41_code, 2, (some (.int : FieldType)), (0, 0, 0), none)
abbrev mInt_bitCount : uM := (⟨"java/lang/Integer", "bitCount", "(I)I"⟩, prog_12_method_49_code, 1, (some (.int : FieldType)), (0, 0, 0), none)
abbrev mCod_clear : uM := (⟨"UnmarkedPages$Codes", "clear", "()V"⟩, prog_2_method_2_code, 1, none, (1, 0, 0), none)
abbrev mCod_bitsOfRow : uM := (⟨"UnmarkedPages$Codes", "bitsOfRow", "(I)I"⟩, prog_2_method_4_code, 5, (some (.int : FieldType)), (1, 0, 0), none)
abbrev mFrl_init : uM := (⟨"UnmarkedPages$FrontList", "<init>", "(I)V"⟩, prog_3_method_1_code, 2, none, (1, 1, 238), none)
abbrev mFrl_meet : uM := (⟨"UnmarkedPages$FrontList", "meet", "(J)V"⟩, prog_3_method_6_code, 5, none, (1, 0, 0), none)
abbrev mKno_forget : uM := (⟨"UnmarkedPages$Known", "forget", "()V"⟩, prog_4_method_2_code, 2, none, (1, 0, 0), none)
abbrev mKno_valueOf : uM := (⟨"UnmarkedPages$Known", "valueOf", "(II)I"⟩, prog_4_method_4_code, 3, (some (.int : FieldType)), (1, 0, 0), none)
abbrev mPag_clear : uM := (⟨"UnmarkedPages$Page", "clear", "()V"⟩, prog_5_method_2_code, 1, none, (1, 0, 0), none)
abbrev mPag_addBox : uM := (⟨"UnmarkedPages$Page", "addBox", "(III)V"⟩, prog_5_method_4_code, 4, none, (1, 0, 0), none)
abbrev mPag_addWord : uM := (⟨"UnmarkedPages$Page", "addWord", "(II)V"⟩, prog_5_method_5_code, 3, none, (1, 0, 0), none)
abbrev mPag_lengthenWord : uM := (⟨"UnmarkedPages$Page", "lengthenWord", "()V"⟩, prog_5_method_6_code, 1, none, (1, 0, 0), none)
abbrev mPag_keyOfNote : uM := (⟨"UnmarkedPages$Page", "keyOfNote", "(II)I"⟩, prog_5_method_7_code, 4, (some (.int : FieldType)), (1, 0, 0), none)
abbrev mPag_boxInside : uM := (⟨"UnmarkedPages$Page", "boxInside", "(III)I"⟩, prog_5_method_11_code, 6, (some (.int : FieldType)), (1, 0, 0), none)
abbrev mPth_partCount : uM := (⟨"UnmarkedPages$PathReader", "partCount", "()I"⟩, prog_6_method_3_code, 1, (some (.int : FieldType)), (1, 0, 0), none)
abbrev mPth_takes : uM := (⟨"UnmarkedPages$PathReader", "takes", "(I)Z"⟩, prog_6_method_5_code, 2, (some (.boolean : FieldType)), (1, 0, 0), none)
abbrev mRea_expect : uM := (⟨"UnmarkedPages$Reader", "expect", "(ZII)V"⟩, prog_7_method_5_code, 4, none, (1, 0, 0), none)
abbrev mRea_takeKey : uM := (⟨"UnmarkedPages$Reader", "takeKey", "(II)V"⟩, prog_7_method_8_code, 4, none, (1, 0, 0), none)
abbrev mRea_latestName : uM := (⟨"UnmarkedPages$Reader", "latestName", "()I"⟩, prog_7_method_13_code, 1, (some (.int : FieldType)), (1, 0, 0), none)
abbrev mRea_close : uM := (⟨"UnmarkedPages$Reader", "close", "(I)V"⟩, prog_7_method_14_code, 2, none, (1, 0, 0), none)
abbrev mRow_init : uM := (⟨"UnmarkedPages$Row", "<init>", "(I)V"⟩, prog_8_method_1_code, 2, none, (1, 1, 100), none)
abbrev mRow_become : uM := (⟨"UnmarkedPages$Row", "become", "(LUnmarkedPages$Row;)V"⟩, prog_8_method_12_code, 4, none, (1, 0, 0), none)
abbrev mSta_ends : uM := (⟨"UnmarkedPages$State", "ends", "(II)Z"⟩, prog_9_method_3_code, 3, (some (.boolean : FieldType)), (1, 0, 0), none)
abbrev mSta_setEnds : uM := (⟨"UnmarkedPages$State", "setEnds", "(IIZ)V"⟩, prog_9_method_4_code, 4, none, (1, 0, 0), none)
abbrev mSta_ruleCount : uM := (⟨"UnmarkedPages$State", "ruleCount", "()I"⟩, prog_9_method_5_code, 1, (some (.int : FieldType)), (1, 0, 0), none)
abbrev mSta_letterCount : uM := (⟨"UnmarkedPages$State", "letterCount", "()I"⟩, prog_9_method_10_code, 3, (some (.int : FieldType)), (1, 0, 0), none)
abbrev mSta_stepCount : uM := (⟨"UnmarkedPages$State", "stepCount", "(I)I"⟩, prog_9_method_11_code, 4, (some (.int : FieldType)), (1, 0, 0), none)
abbrev mUmp_type : uM := (⟨"UnmarkedPages", "type", "(C)I"⟩, prog_1_method_6_code, 2, (some (.int : FieldType)), (1, 0, 0), none)
abbrev mUmp_clearText : uM := (⟨"UnmarkedPages", "clearText", "()I"⟩, prog_1_method_7_code, 2, (some (.int : FieldType)), (1, 0, 0), none)
abbrev mUmp_charAt : uM := (⟨"UnmarkedPages", "charAt", "(II)I"⟩, prog_1_method_12_code, 4, (some (.int : FieldType)), (1, 0, 0), none)
abbrev mUmp_code : uM := (⟨"UnmarkedPages", "code", "(III)I"⟩, prog_1_method_13_code, 5, (some (.int : FieldType)), (1, 0, 0), none)
abbrev mUmp_known : uM := (⟨"UnmarkedPages", "known", "(II)I"⟩, prog_1_method_17_code, 4, (some (.int : FieldType)), (1, 0, 0), none)
abbrev mMod_init : uM := (⟨"UnmarkedPagesModel", "<init>", "()V"⟩, prog_11_method_1_code, 1, none, (1, 20, 10353), none)
abbrev mMod_no : uM := (⟨"UnmarkedPagesModel", "no", "(I)Z"⟩, prog_11_method_3_code, 2, (some (.boolean : FieldType)), (1, 0, 0), none)
abbrev mMod_noName : uM := (⟨"UnmarkedPagesModel", "noName", "(I)Z"⟩, prog_11_method_4_code, 1, (some (.boolean : FieldType)), (1, 0, 0), none)
abbrev mMod_isAt : uM := (⟨"UnmarkedPagesModel", "isAt", "(III)Z"⟩, prog_11_method_9_code, 4, (some (.boolean : FieldType)), (1, 0, 0), none)
abbrev mMod_implies : uM := (⟨"UnmarkedPagesModel", "implies", "(IZ)V"⟩, prog_11_method_11_code, 5, none, (1, 0, 0), none)
abbrev mMod_codesName : uM := (⟨"UnmarkedPagesModel", "codesName", "(I)V"⟩, prog_11_method_22_code, 6, none, (1, 0, 0), none)
abbrev mMod_codesNotes : uM := (⟨"UnmarkedPagesModel", "codesNotes", "(I)V"⟩, prog_11_method_23_code, 7, none, (1, 0, 0), none)
abbrev mMod_codesWord : uM := (⟨"UnmarkedPagesModel", "codesWord", "(II)V"⟩, prog_11_method_25_code, 5, none, (1, 0, 0), none)
abbrev mMod_rowBits : uM := (⟨"UnmarkedPagesModel", "rowBits", "(I)I"⟩, prog_11_method_29_code, 4, (some (.int : FieldType)), (1, 0, 0), none)
abbrev mMod_unpackLast : uM := (⟨"UnmarkedPagesModel", "unpackLast", "()I"⟩, prog_11_method_35_code, 1, (some (.int : FieldType)), (1, 0, 0), none)
abbrev mMod_restore : uM := (⟨"UnmarkedPagesModel", "restore", "()I"⟩, prog_11_method_42_code, 2, (some (.int : FieldType)), (1, 0, 0), none)
abbrev mMod_partsOfText : uM := (⟨"UnmarkedPagesModel", "partsOfText", "()I"⟩, prog_11_method_47_code, 4, (some (.int : FieldType)), (1, 0, 0), none)
abbrev mMod_inner : uM := (⟨"UnmarkedPagesModel", "inner", "(III)I"⟩, prog_11_method_48_code, 6, (some (.int : FieldType)), (1, 0, 0), none)
abbrev mCod_init : uM := (⟨"UnmarkedPages$Codes", "<init>", "()V"⟩, prog_2_method_1_code, 1, none, (2, 8, 408), none)
abbrev mCod_bitsOfAll : uM := (⟨"UnmarkedPages$Codes", "bitsOfAll", "()I"⟩, prog_2_method_5_code, 3, (some (.int : FieldType)), (2, 0, 0), none)
abbrev mKno_init : uM := (⟨"UnmarkedPages$Known", "<init>", "()V"⟩, prog_4_method_1_code, 2, none, (2, 21, 2131), none)
abbrev mKno_takeName : uM := (⟨"UnmarkedPages$Known", "takeName", "(LUnmarkedPages$Page;ILUnmarkedPages$Row;)V"⟩, prog_4_method_6_code, 8, none, (2, 0, 0), none)
abbrev mKno_takeValue : uM := (⟨"UnmarkedPages$Known", "takeValue", "(IIILUnmarkedPages$Row;)V"⟩, prog_4_method_8_code, 6, none, (2, 0, 0), none)
abbrev mKno_takeWord : uM := (⟨"UnmarkedPages$Known", "takeWord", "(LUnmarkedPages$Page;ILUnmarkedPages$Row;)V"⟩, prog_4_method_9_code, 10, none, (2, 0, 0), none)
abbrev mPag_init : uM := (⟨"UnmarkedPages$Page", "<init>", "()V"⟩, prog_5_method_1_code, 1, none, (2, 16, 816), none)
abbrev mPag_become : uM := (⟨"UnmarkedPages$Page", "become", "(LUnmarkedPages$Page;)V"⟩, prog_5_method_3_code, 2, none, (2, 0, 0), none)
abbrev mPag_valueOfKey : uM := (⟨"UnmarkedPages$Page", "valueOfKey", "(II)I"⟩, prog_5_method_8_code, 4, (some (.int : FieldType)), (2, 0, 0), none)
abbrev mPag_keySet : uM := (⟨"UnmarkedPages$Page", "keySet", "(I)I"⟩, prog_5_method_9_code, 5, (some (.int : FieldType)), (2, 0, 0), none)
abbrev mPag_orderOfKeys : uM := (⟨"UnmarkedPages$Page", "orderOfKeys", "(II)I"⟩, prog_5_method_10_code, 8, (some (.int : FieldType)), (2, 0, 0), none)
abbrev mPth_init : uM := (⟨"UnmarkedPages$PathReader", "<init>", "()V"⟩, prog_6_method_1_code, 1, none, (2, 4, 204), none)
abbrev mPth_readFault : uM := (⟨"UnmarkedPages$PathReader", "readFault", "(LUnmarkedPages$Row;)I"⟩, prog_6_method_2_code, 3, (some (.int : FieldType)), (2, 0, 0), none)
abbrev mPth_boxIn : uM := (⟨"UnmarkedPages$PathReader", "boxIn", "(LUnmarkedPages$Page;)I"⟩, prog_6_method_4_code, 5, (some (.int : FieldType)), (2, 0, 0), none)
abbrev mRea_openBox : uM := (⟨"UnmarkedPages$Reader", "openBox", "(IILUnmarkedPages$State;)V"⟩, prog_7_method_7_code, 5, none, (2, 0, 0), none)
abbrev mRea_takeInBox : uM := (⟨"UnmarkedPages$Reader", "takeInBox", "(II)V"⟩, prog_7_method_9_code, 3, none, (2, 0, 0), none)
abbrev mRea_takeClosingEnd : uM := (⟨"UnmarkedPages$Reader", "takeClosingEnd", "(II)V"⟩, prog_7_method_11_code, 3, none, (2, 0, 0), none)
abbrev mRea_isEndedByClosing : uM := (⟨"UnmarkedPages$Reader", "isEndedByClosing", "(ILUnmarkedPages$State;)Z"⟩, prog_7_method_12_code, 4, (some (.boolean : FieldType)), (2, 0, 0), none)
abbrev mUmp_latest : uM := (⟨"UnmarkedPages", "latest", "(II)I"⟩, prog_1_method_18_code, 4, (some (.int : FieldType)), (2, 0, 0), none)
abbrev mMod_readNotes : uM := (⟨"UnmarkedPagesModel", "readNotes", "(II)I"⟩, prog_11_method_13_code, 7, (some (.int : FieldType)), (2, 0, 0), none)
abbrev mMod_closes : uM := (⟨"UnmarkedPagesModel", "closes", "(I)I"⟩, prog_11_method_15_code, 3, (some (.int : FieldType)), (2, 0, 0), none)
abbrev mMod_readWord : uM := (⟨"UnmarkedPagesModel", "readWord", "(I)I"⟩, prog_11_method_16_code, 4, (some (.int : FieldType)), (2, 0, 0), none)
abbrev mMod_packs : uM := (⟨"UnmarkedPagesModel", "packs", "()V"⟩, prog_11_method_26_code, 2, none, (2, 0, 0), none)
abbrev mMod_pageBits : uM := (⟨"UnmarkedPagesModel", "pageBits", "()I"⟩, prog_11_method_30_code, 1, (some (.int : FieldType)), (2, 0, 0), none)
abbrev mMod_rule : uM := (⟨"UnmarkedPagesModel", "rule", "(IIZ)I"⟩, prog_11_method_33_code, 4, (some (.int : FieldType)), (2, 0, 0), none)
abbrev mMod_charAt : uM := (⟨"UnmarkedPagesModel", "charAt", "(II)I"⟩, prog_11_method_43_code, 3, (some (.int : FieldType)), (2, 0, 0), none)
abbrev mKno_takeNotes : uM := (⟨"UnmarkedPages$Known", "takeNotes", "(LUnmarkedPages$Page;ILUnmarkedPages$Row;)V"⟩, prog_4_method_7_code, 7, none, (3, 0, 0), none)
abbrev mRea_init : uM := (⟨"UnmarkedPages$Reader", "<init>", "()V"⟩, prog_7_method_1_code, 1, none, (3, 21, 1028), none)
abbrev mRea_takeBehindMark : uM := (⟨"UnmarkedPages$Reader", "takeBehindMark", "(IILUnmarkedPages$State;)V"⟩, prog_7_method_6_code, 4, none, (3, 0, 0), none)
abbrev mRea_takeClosingName : uM := (⟨"UnmarkedPages$Reader", "takeClosingName", "(IILUnmarkedPages$State;)V"⟩, prog_7_method_10_code, 6, none, (3, 0, 0), none)
abbrev mSta_init : uM := (⟨"UnmarkedPages$State", "<init>", "()V"⟩, prog_9_method_1_code, 2, none, (3, 105, 5052), none)
abbrev mSta_addPage : uM := (⟨"UnmarkedPages$State", "addPage", "(LUnmarkedPages$Page;)V"⟩, prog_9_method_8_code, 2, none, (3, 0, 0), none)
abbrev mUmp_bits : uM := (⟨"UnmarkedPages", "bits", "(II)I"⟩, prog_1_method_14_code, 4, (some (.int : FieldType)), (3, 0, 0), none)
abbrev mUmp_toldOfBox : uM := (⟨"UnmarkedPages", "toldOfBox", "(LUnmarkedPages$Page;II)I"⟩, prog_1_method_20_code, 5, (some (.int : FieldType)), (3, 0, 0), none)
abbrev mUmp_bitsOfAllPages : uM := (⟨"UnmarkedPages", "bitsOfAllPages", "()I"⟩, prog_1_method_23_code, 3, (some (.int : FieldType)), (3, 0, 0), none)
abbrev mMod_opens : uM := (⟨"UnmarkedPagesModel", "opens", "(I)I"⟩, prog_11_method_14_code, 5, (some (.int : FieldType)), (3, 0, 0), none)
abbrev mKno_take : uM := (⟨"UnmarkedPages$Known", "take", "(LUnmarkedPages$Page;LUnmarkedPages$Codes;)V"⟩, prog_4_method_5_code, 4, none, (4, 0, 0), none)
abbrev mRea_take : uM := (⟨"UnmarkedPages$Reader", "take", "(IILUnmarkedPages$State;)V"⟩, prog_7_method_4_code, 4, none, (4, 0, 0), none)
abbrev mSta_become : uM := (⟨"UnmarkedPages$State", "become", "(LUnmarkedPages$State;)V"⟩, prog_9_method_2_code, 3, none, (4, 0, 0), none)
abbrev mUmp_init : uM := (⟨"UnmarkedPages", "<init>", "()V"⟩, prog_1_method_1_code, 2, none, (4, 774, 40000), none)
abbrev mUmp_path : uM := (⟨"UnmarkedPages", "path", "(II)I"⟩, prog_1_method_16_code, 6, (some (.int : FieldType)), (4, 0, 0), none)
abbrev mUmp_count : uM := (⟨"UnmarkedPages", "count", "(I)I"⟩, prog_1_method_19_code, 2, (some (.int : FieldType)), (4, 0, 0), none)
abbrev mMod_isPage : uM := (⟨"UnmarkedPagesModel", "isPage", "()Z"⟩, prog_11_method_17_code, 2, (some (.boolean : FieldType)), (4, 0, 0), none)
abbrev mRea_read : uM := (⟨"UnmarkedPages$Reader", "read", "(LUnmarkedPages$Row;LUnmarkedPages$State;)V"⟩, prog_7_method_3_code, 4, none, (5, 0, 0), none)
abbrev mUmp_keep : uM := (⟨"UnmarkedPages", "keep", "()I"⟩, prog_1_method_10_code, 1, (some (.int : FieldType)), (5, 0, 0), none)
abbrev mUmp_recordState : uM := (⟨"UnmarkedPages", "recordState", "()V"⟩, prog_1_method_21_code, 3, none, (5, 0, 0), none)
abbrev mUmp_packAnew : uM := (⟨"UnmarkedPages", "packAnew", "()V"⟩, prog_1_method_22_code, 2, none, (5, 0, 0), none)
abbrev mMod_takesPage : uM := (⟨"UnmarkedPagesModel", "takesPage", "(I)V"⟩, prog_11_method_19_code, 4, none, (5, 0, 0), none)
abbrev mMod_fault : uM := (⟨"UnmarkedPagesModel", "fault", "(I)I"⟩, prog_11_method_39_code, 2, (some (.int : FieldType)), (5, 0, 0), none)
abbrev mUmp_rule : uM := (⟨"UnmarkedPages", "rule", "(IIZ)I"⟩, prog_1_method_2_code, 4, (some (.int : FieldType)), (6, 0, 0), none)
abbrev mUmp_pack : uM := (⟨"UnmarkedPages", "pack", "()I"⟩, prog_1_method_3_code, 2, (some (.int : FieldType)), (6, 0, 0), none)
abbrev mUmp_unpackLast : uM := (⟨"UnmarkedPages", "unpackLast", "()I"⟩, prog_1_method_4_code, 1, (some (.int : FieldType)), (6, 0, 0), none)
abbrev mUmp_first : uM := (⟨"UnmarkedPages", "first", "(I)I"⟩, prog_1_method_5_code, 3, (some (.int : FieldType)), (6, 0, 0), none)
abbrev mUmp_fault : uM := (⟨"UnmarkedPages", "fault", "(I)I"⟩, prog_1_method_8_code, 2, (some (.int : FieldType)), (6, 0, 0), none)
abbrev mUmp_undo : uM := (⟨"UnmarkedPages", "undo", "()I"⟩, prog_1_method_9_code, 1, (some (.int : FieldType)), (6, 0, 0), none)
abbrev mUmp_restore : uM := (⟨"UnmarkedPages", "restore", "()I"⟩, prog_1_method_11_code, 1, (some (.int : FieldType)), (6, 0, 0), none)
abbrev mUmp_wouldTake : uM := (⟨"UnmarkedPages", "wouldTake", "(Z)I"⟩, prog_1_method_15_code, 4, (some (.int : FieldType)), (6, 0, 0), none)
abbrev mMod_packsUpTo : uM := (⟨"UnmarkedPagesModel", "packsUpTo", "(I)V"⟩, prog_11_method_27_code, 3, none, (6, 0, 0), none)
abbrev mMod_allBits : uM := (⟨"UnmarkedPagesModel", "allBits", "()I"⟩, prog_11_method_31_code, 3, (some (.int : FieldType)), (6, 0, 0), none)
abbrev mMod_path : uM := (⟨"UnmarkedPagesModel", "path", "(II)I"⟩, prog_11_method_49_code, 6, (some (.int : FieldType)), (6, 0, 0), none)
abbrev mMod_overPages : uM := (⟨"UnmarkedPagesModel", "overPages", "(I)I"⟩, prog_11_method_52_code, 4, (some (.int : FieldType)), (6, 0, 0), none)
abbrev mMod_pack : uM := (⟨"UnmarkedPagesModel", "pack", "()I"⟩, prog_11_method_34_code, 3, (some (.int : FieldType)), (7, 0, 0), none)
abbrev mMod_first : uM := (⟨"UnmarkedPagesModel", "first", "(I)I"⟩, prog_11_method_36_code, 6, (some (.int : FieldType)), (7, 0, 0), none)
abbrev mMod_code : uM := (⟨"UnmarkedPagesModel", "code", "(III)I"⟩, prog_11_method_44_code, 4, (some (.int : FieldType)), (7, 0, 0), none)
abbrev mMod_bits : uM := (⟨"UnmarkedPagesModel", "bits", "(II)I"⟩, prog_11_method_45_code, 3, (some (.int : FieldType)), (7, 0, 0), none)
abbrev mMod_wouldTake : uM := (⟨"UnmarkedPagesModel", "wouldTake", "(Z)I"⟩, prog_11_method_46_code, 2, (some (.int : FieldType)), (7, 0, 0), none)
abbrev mMod_known : uM := (⟨"UnmarkedPagesModel", "known", "(II)I"⟩, prog_11_method_50_code, 3, (some (.int : FieldType)), (7, 0, 0), none)
abbrev mMod_latest : uM := (⟨"UnmarkedPagesModel", "latest", "(II)I"⟩, prog_11_method_51_code, 3, (some (.int : FieldType)), (7, 0, 0), none)
abbrev mMod_count : uM := (⟨"UnmarkedPagesModel", "count", "(I)I"⟩, prog_11_method_53_code, 2, (some (.int : FieldType)), (7, 0, 0), none)
abbrev mLaw_law (b L : Nat) (xs : Nat → Int32) : uM := (x, code, maxLocals, ret, (9, 600000, 7302250), some (b, L, xs))
/-! what links: fields -/
set_option maxRecDepth 20000 in
theorem kF_Cod_14 : u_lkF "UnmarkedPages$Codes" 14 0 0 (.object "UnmarkedPages$Row") := ⟨("UnmarkedPages$Codes", uf_T uf_0, 4), rfl, by decide, rfl, by decide +kernel, Or.inl (uw_mem 269 rfl rfl)⟩
set_option maxRecDepth 20000 in
theorem kF_Cod_20 : u_lkF "UnmarkedPages$Codes" 20 0 1 (.object "UnmarkedPages$Row") := ⟨("UnmarkedPages$Codes", uf_T uf_0, 4), rfl, by decide, rfl, by decide +kernel, Or.inl (uw_mem 271 rfl rfl)⟩
set_option maxRecDepth 20000 in
theorem kF_Cod_23 : u_lkF "UnmarkedPages$Codes" 23 0 2 (.object "UnmarkedPages$Row") := ⟨("UnmarkedPages$Codes", uf_T uf_0, 4), rfl, by decide, rfl, by decide +kernel, Or.inl (uw_mem 273 rfl rfl)⟩
set_option maxRecDepth 20000 in
theorem kF_Cod_26 : u_lkF "UnmarkedPages$Codes" 26 0 3 (.object "UnmarkedPages$Row") := ⟨("UnmarkedPages$Codes", uf_T uf_0, 4), rfl, by decide, rfl, by decide +kernel, Or.inl (uw_mem 275 rfl rfl)⟩
set_option maxRecDepth 20000 in
theorem kF_Frl_21 : u_lkF "UnmarkedPages$FrontList" 21 1 1 (.int) := ⟨("UnmarkedPages$FrontList", uf_T uf_1, 2), rfl, by decide, rfl, by decide +kernel, Or.inl (uw_mem 236 rfl rfl)⟩
set_option maxRecDepth 20000 in
theorem kP_Frl_21 : u_lkP "UnmarkedPages$FrontList" 21 1 1 (.int) := ⟨("UnmarkedPages$FrontList", uf_T uf_1, 2), rfl, by decide, rfl, rfl, by decide +kernel, uw_mem 236 rfl rfl⟩
set_option maxRecDepth 20000 in
theorem kF_Frl_15 : u_lkF "UnmarkedPages$FrontList" 15 1 0 (.array .long) := ⟨("UnmarkedPages$FrontList", uf_T uf_1, 2), rfl, by decide, rfl, by decide +kernel, Or.inl (uw_mem 235 rfl rfl)⟩
set_option maxRecDepth 20000 in
theorem kF_Kno_11 : u_lkF "UnmarkedPages$Known" 11 2 0 (.array (.object "UnmarkedPages$FrontList")) := ⟨("UnmarkedPages$Known", uf_T uf_2, 4), rfl, by decide, rfl, by decide +kernel, Or.inl (uw_mem 246 rfl rfl)⟩
set_option maxRecDepth 20000 in
theorem kF_Rea_18 : u_lkF "UnmarkedPages$Reader" 18 5 2 (.int) := ⟨("UnmarkedPages$Reader", uf_T uf_5, 7), rfl, by decide, rfl, by decide +kernel, Or.inl (uw_mem 154 rfl rfl)⟩
set_option maxRecDepth 20000 in
theorem kP_Rea_139 : u_lkP "UnmarkedPages$Reader" 139 5 1 (.int) := ⟨("UnmarkedPages$Reader", uf_T uf_5, 7), rfl, by decide, rfl, rfl, by decide +kernel, uw_mem 153 rfl rfl⟩
set_option maxRecDepth 20000 in
theorem kP_Rea_18 : u_lkP "UnmarkedPages$Reader" 18 5 2 (.int) := ⟨("UnmarkedPages$Reader", uf_T uf_5, 7), rfl, by decide, rfl, rfl, by decide +kernel, uw_mem 154 rfl rfl⟩
set_option maxRecDepth 20000 in
theorem kP_Rea_142 : u_lkP "UnmarkedPages$Reader" 142 5 3 (.int) := ⟨("UnmarkedPages$Reader", uf_T uf_5, 7), rfl, by decide, rfl, rfl, by decide +kernel, uw_mem 157 rfl rfl⟩
set_option maxRecDepth 20000 in
theorem kF_Row_21 : u_lkF "UnmarkedPages$Row" 21 6 1 (.int) := ⟨("UnmarkedPages$Row", uf_T uf_6, 2), rfl, by decide, rfl, by decide +kernel, Or.inl (uw_mem 83 rfl rfl)⟩
set_option maxRecDepth 20000 in
theorem kP_Row_21 : u_lkP "UnmarkedPages$Row" 21 6 1 (.int) := ⟨("UnmarkedPages$Row", uf_T uf_6, 2), rfl, by decide, rfl, rfl, by decide +kernel, uw_mem 83 rfl rfl⟩
set_option maxRecDepth 20000 in
theorem kF_Row_15 : u_lkF "UnmarkedPages$Row" 15 6 0 (.array .int) := ⟨("UnmarkedPages$Row", uf_T uf_6, 2), rfl, by decide, rfl, by decide +kernel, Or.inl (uw_mem 82 rfl rfl)⟩
set_option maxRecDepth 20000 in
theorem kF_Sta_34 : u_lkF "UnmarkedPages$State" 34 7 2 (.int) := ⟨("UnmarkedPages$State", uf_T uf_7, 3), rfl, by decide, rfl, by decide +kernel, Or.inl (uw_mem 211 rfl rfl)⟩
set_option maxRecDepth 20000 in
theorem kF_Sta_22 : u_lkF "UnmarkedPages$State" 22 7 1 (.array (.object "UnmarkedPages$Page")) := ⟨("UnmarkedPages$State", uf_T uf_7, 3), rfl, by decide, rfl, by decide +kernel, Or.inl (uw_mem 210 rfl rfl)⟩
set_option maxRecDepth 20000 in
theorem kF_Ump_55 : u_lkF "UnmarkedPages" 55 8 9 (.array (.object "UnmarkedPages$Codes")) := ⟨("UnmarkedPages", uf_T uf_8, 12), rfl, by decide, rfl, by decide +kernel, Or.inl (uw_mem 295 rfl rfl)⟩
set_option maxRecDepth 20000 in
theorem kF_Ump_63 : u_lkF "UnmarkedPages" 63 8 11 (.object "UnmarkedPages$Codes") := ⟨("UnmarkedPages", uf_T uf_8, 12), rfl, by decide, rfl, by decide +kernel, Or.inl (uw_mem 297 rfl rfl)⟩
set_option maxRecDepth 20000 in
theorem kF_Mod_75 : u_lkF "UnmarkedPagesModel" 75 9 2 (.int) := ⟨("UnmarkedPagesModel", uf_T uf_9, 32), rfl, by decide, rfl, by decide +kernel, Or.inl (uw_mem 744 rfl rfl)⟩
set_option maxRecDepth 20000 in
theorem kF_Mod_13 : u_lkF "UnmarkedPagesModel" 13 9 1 (.array .int) := ⟨("UnmarkedPagesModel", uf_T uf_9, 32), rfl, by decide, rfl, by decide +kernel, Or.inl (uw_mem 743 rfl rfl)⟩
set_option maxRecDepth 20000 in
theorem kP_Mod_75 : u_lkP "UnmarkedPagesModel" 75 9 2 (.int) := ⟨("UnmarkedPagesModel", uf_T uf_9, 32), rfl, by decide, rfl, rfl, by decide +kernel, uw_mem 744 rfl rfl⟩
set_option maxRecDepth 20000 in
theorem kF_Mod_7 : u_lkF "UnmarkedPagesModel" 7 9 0 (.array .int) := ⟨("UnmarkedPagesModel", uf_T uf_9, 32), rfl, by decide, rfl, by decide +kernel, Or.inl (uw_mem 742 rfl rfl)⟩
set_option maxRecDepth 20000 in
theorem kF_Mod_31 : u_lkF "UnmarkedPagesModel" 31 9 11 (.array .int) := ⟨("UnmarkedPagesModel", uf_T uf_9, 32), rfl, by decide, rfl, by decide +kernel, Or.inl (uw_mem 753 rfl rfl)⟩
set_option maxRecDepth 20000 in
theorem kP_Mod_79 : u_lkP "UnmarkedPagesModel" 79 9 17 (.int) := ⟨("UnmarkedPagesModel", uf_T uf_9, 32), rfl, by decide, rfl, rfl, by decide +kernel, uw_mem 759 rfl rfl⟩
set_option maxRecDepth 20000 in
theorem kF_Mod_82 : u_lkF "UnmarkedPagesModel" 82 9 6 (.int) := ⟨("UnmarkedPagesModel", uf_T uf_9, 32), rfl, by decide, rfl, by decide +kernel, Or.inl (uw_mem 748 rfl rfl)⟩
set_option maxRecDepth 20000 in
theorem kP_Mod_85 : u_lkP "UnmarkedPagesModel" 85 9 18 (.int) := ⟨("UnmarkedPagesModel", uf_T uf_9, 32), rfl, by decide, rfl, rfl, by decide +kernel, uw_mem 760 rfl rfl⟩
set_option maxRecDepth 20000 in
theorem kP_Mod_88 : u_lkP "UnmarkedPagesModel" 88 9 19 (.int) := ⟨("UnmarkedPagesModel", uf_T uf_9, 32), rfl, by decide, rfl, rfl, by decide +kernel, uw_mem 761 rfl rfl⟩
set_option maxRecDepth 20000 in
theorem kF_Mod_34 : u_lkF "UnmarkedPagesModel" 34 9 13 (.array .int) := ⟨("UnmarkedPagesModel", uf_T uf_9, 32), rfl, by decide, rfl, by decide +kernel, Or.inl (uw_mem 755 rfl rfl)⟩
set_option maxRecDepth 20000 in
theorem kF_Mod_91 : u_lkF "UnmarkedPagesModel" 91 9 15 (.int) := ⟨("UnmarkedPagesModel", uf_T uf_9, 32), rfl, by decide, rfl, by decide +kernel, Or.inl (uw_mem 757 rfl rfl)⟩
set_option maxRecDepth 20000 in
theorem kF_Mod_37 : u_lkF "UnmarkedPagesModel" 37 9 14 (.array .int) := ⟨("UnmarkedPagesModel", uf_T uf_9, 32), rfl, by decide, rfl, by decide +kernel, Or.inl (uw_mem 756 rfl rfl)⟩
set_option maxRecDepth 20000 in
theorem kP_Mod_91 : u_lkP "UnmarkedPagesModel" 91 9 15 (.int) := ⟨("UnmarkedPagesModel", uf_T uf_9, 32), rfl, by decide, rfl, rfl, by decide +kernel, uw_mem 757 rfl rfl⟩
set_option maxRecDepth 20000 in
theorem kF_Mod_140 : u_lkF "UnmarkedPagesModel" 140 9 28 (.int) := ⟨("UnmarkedPagesModel", uf_T uf_9, 32), rfl, by decide, rfl, by decide +kernel, Or.inl (uw_mem 770 rfl rfl)⟩
set_option maxRecDepth 20000 in
theorem kP_Mod_82 : u_lkP "UnmarkedPagesModel" 82 9 6 (.int) := ⟨("UnmarkedPagesModel", uf_T uf_9, 32), rfl, by decide, rfl, rfl, by decide +kernel, uw_mem 748 rfl rfl⟩
set_option maxRecDepth 20000 in
theorem kF_Mod_19 : u_lkF "UnmarkedPagesModel" 19 9 5 (.array .int) := ⟨("UnmarkedPagesModel", uf_T uf_9, 32), rfl, by decide, rfl, by decide +kernel, Or.inl (uw_mem 747 rfl rfl)⟩
set_option maxRecDepth 20000 in
theorem kF_Mod_61 : u_lkF "UnmarkedPagesModel" 61 9 29 (.array .char) := ⟨("UnmarkedPagesModel", uf_T uf_9, 32), rfl, by decide, rfl, by decide +kernel, Or.inl (uw_mem 771 rfl rfl)⟩
set_option maxRecDepth 20000 in
theorem kF_Mod_22 : u_lkF "UnmarkedPagesModel" 22 9 7 (.array .int) := ⟨("UnmarkedPagesModel", uf_T uf_9, 32), rfl, by decide, rfl, by decide +kernel, Or.inl (uw_mem 749 rfl rfl)⟩
set_option maxRecDepth 20000 in
theorem kP_Mod_147 : u_lkP "UnmarkedPagesModel" 147 9 25 (.int) := ⟨("UnmarkedPagesModel", uf_T uf_9, 32), rfl, by decide, rfl, rfl, by decide +kernel, uw_mem 767 rfl rfl⟩
set_option maxRecDepth 20000 in
theorem kF_Mod_43 : u_lkF "UnmarkedPagesModel" 43 9 21 (.array .int) := ⟨("UnmarkedPagesModel", uf_T uf_9, 32), rfl, by decide, rfl, by decide +kernel, Or.inl (uw_mem 763 rfl rfl)⟩
set_option maxRecDepth 20000 in
theorem kF_Mod_46 : u_lkF "UnmarkedPagesModel" 46 9 22 (.array .int) := ⟨("UnmarkedPagesModel", uf_T uf_9, 32), rfl, by decide, rfl, by decide +kernel, Or.inl (uw_mem 764 rfl rfl)⟩
set_option maxRecDepth 20000 in
theorem kF_Mod_49 : u_lkF "UnmarkedPagesModel" 49 9 23 (.array .int) := ⟨("UnmarkedPagesModel", uf_T uf_9, 32), rfl, by decide, rfl, by decide +kernel, Or.inl (uw_mem 765 rfl rfl)⟩
set_option maxRecDepth 20000 in
theorem kF_Mod_55 : u_lkF "UnmarkedPagesModel" 55 9 26 (.array .int) := ⟨("UnmarkedPagesModel", uf_T uf_9, 32), rfl, by decide, rfl, by decide +kernel, Or.inl (uw_mem 768 rfl rfl)⟩
set_option maxRecDepth 20000 in
theorem kF_Mod_58 : u_lkF "UnmarkedPagesModel" 58 9 27 (.array .int) := ⟨("UnmarkedPagesModel", uf_T uf_9, 32), rfl, by decide, rfl, by decide +kernel, Or.inl (uw_mem 769 rfl rfl)⟩
set_option maxRecDepth 20000 in
theorem kF_Mod_52 : u_lkF "UnmarkedPagesModel" 52 9 24 (.array .int) := ⟨("UnmarkedPagesModel", uf_T uf_9, 32), rfl, by decide, rfl, by decide +kernel, Or.inl (uw_mem 766 rfl rfl)⟩
set_option maxRecDepth 20000 in
theorem kP_Mod_140 : u_lkP "UnmarkedPagesModel" 140 9 28 (.int) := ⟨("UnmarkedPagesModel", uf_T uf_9, 32), rfl, by decide, rfl, rfl, by decide +kernel, uw_mem 770 rfl rfl⟩
set_option maxRecDepth 20000 in
theorem kF_Mod_16 : u_lkF "UnmarkedPagesModel" 16 9 3 (.array .int) := ⟨("UnmarkedPagesModel", uf_T uf_9, 32), rfl, by decide, rfl, by decide +kernel, Or.inl (uw_mem 745 rfl rfl)⟩
set_option maxRecDepth 20000 in
theorem kP_Mod_206 : u_lkP "UnmarkedPagesModel" 206 9 4 (.boolean) := ⟨("UnmarkedPagesModel", uf_T uf_9, 32), rfl, by decide, rfl, rfl, by decide +kernel, uw_mem 746 rfl rfl⟩
set_option maxRecDepth 20000 in
theorem kQ_Frl_15 : u_lkQ "UnmarkedPages$FrontList" 15 1 0 (.array .long) := ⟨("UnmarkedPages$FrontList", uf_T uf_1, 2), rfl, by decide, rfl, rfl, rfl, by decide +kernel, uw_mem 235 rfl rfl⟩
set_option maxRecDepth 20000 in
theorem kF_Kno_20 : u_lkF "UnmarkedPages$Known" 20 2 1 (.object "UnmarkedPages$FrontList") := ⟨("UnmarkedPages$Known", uf_T uf_2, 4), rfl, by decide, rfl, by decide +kernel, Or.inl (uw_mem 247 rfl rfl)⟩
set_option maxRecDepth 20000 in
theorem kF_Kno_27 : u_lkF "UnmarkedPages$Known" 27 2 2 (.object "UnmarkedPages$Row") := ⟨("UnmarkedPages$Known", uf_T uf_2, 4), rfl, by decide, rfl, by decide +kernel, Or.inl (uw_mem 249 rfl rfl)⟩
set_option maxRecDepth 20000 in
theorem kF_Kno_31 : u_lkF "UnmarkedPages$Known" 31 2 3 (.object "UnmarkedPages$Row") := ⟨("UnmarkedPages$Known", uf_T uf_2, 4), rfl, by decide, rfl, by decide +kernel, Or.inl (uw_mem 250 rfl rfl)⟩
set_option maxRecDepth 20000 in
theorem kF_Pag_14 : u_lkF "UnmarkedPages$Page" 14 3 0 (.object "UnmarkedPages$Row") := ⟨("UnmarkedPages$Page", uf_T uf_3, 8), rfl, by decide, rfl, by decide +kernel, Or.inl (uw_mem 104 rfl rfl)⟩
set_option maxRecDepth 20000 in
theorem kF_Pag_20 : u_lkF "UnmarkedPages$Page" 20 3 1 (.object "UnmarkedPages$Row") := ⟨("UnmarkedPages$Page", uf_T uf_3, 8), rfl, by decide, rfl, by decide +kernel, Or.inl (uw_mem 109 rfl rfl)⟩
set_option maxRecDepth 20000 in
theorem kF_Pag_23 : u_lkF "UnmarkedPages$Page" 23 3 2 (.object "UnmarkedPages$Row") := ⟨("UnmarkedPages$Page", uf_T uf_3, 8), rfl, by decide, rfl, by decide +kernel, Or.inl (uw_mem 113 rfl rfl)⟩
set_option maxRecDepth 20000 in
theorem kF_Pag_26 : u_lkF "UnmarkedPages$Page" 26 3 3 (.object "UnmarkedPages$Row") := ⟨("UnmarkedPages$Page", uf_T uf_3, 8), rfl, by decide, rfl, by decide +kernel, Or.inl (uw_mem 116 rfl rfl)⟩
set_option maxRecDepth 20000 in
theorem kF_Pag_29 : u_lkF "UnmarkedPages$Page" 29 3 4 (.object "UnmarkedPages$Row") := ⟨("UnmarkedPages$Page", uf_T uf_3, 8), rfl, by decide, rfl, by decide +kernel, Or.inl (uw_mem 120 rfl rfl)⟩
set_option maxRecDepth 20000 in
theorem kF_Pag_32 : u_lkF "UnmarkedPages$Page" 32 3 5 (.object "UnmarkedPages$Row") := ⟨("UnmarkedPages$Page", uf_T uf_3, 8), rfl, by decide, rfl, by decide +kernel, Or.inl (uw_mem 123 rfl rfl)⟩
set_option maxRecDepth 20000 in
theorem kF_Pag_35 : u_lkF "UnmarkedPages$Page" 35 3 6 (.object "UnmarkedPages$Row") := ⟨("UnmarkedPages$Page", uf_T uf_3, 8), rfl, by decide, rfl, by decide +kernel, Or.inl (uw_mem 125 rfl rfl)⟩
set_option maxRecDepth 20000 in
theorem kF_Pag_38 : u_lkF "UnmarkedPages$Page" 38 3 7 (.object "UnmarkedPages$Row") := ⟨("UnmarkedPages$Page", uf_T uf_3, 8), rfl, by decide, rfl, by decide +kernel, Or.inl (uw_mem 127 rfl rfl)⟩
set_option maxRecDepth 20000 in
theorem kF_Pth_14 : u_lkF "UnmarkedPages$PathReader" 14 4 0 (.object "UnmarkedPages$Row") := ⟨("UnmarkedPages$PathReader", uf_T uf_4, 3), rfl, by decide, rfl, by decide +kernel, Or.inl (uw_mem 184 rfl rfl)⟩
set_option maxRecDepth 20000 in
theorem kF_Pth_26 : u_lkF "UnmarkedPages$PathReader" 26 4 2 (.int) := ⟨("UnmarkedPages$PathReader", uf_T uf_4, 3), rfl, by decide, rfl, by decide +kernel, Or.inl (uw_mem 186 rfl rfl)⟩
set_option maxRecDepth 20000 in
theorem kF_Pth_20 : u_lkF "UnmarkedPages$PathReader" 20 4 1 (.object "UnmarkedPages$Row") := ⟨("UnmarkedPages$PathReader", uf_T uf_4, 3), rfl, by decide, rfl, by decide +kernel, Or.inl (uw_mem 185 rfl rfl)⟩
set_option maxRecDepth 20000 in
theorem kP_Pth_26 : u_lkP "UnmarkedPages$PathReader" 26 4 2 (.int) := ⟨("UnmarkedPages$PathReader", uf_T uf_4, 3), rfl, by decide, rfl, rfl, by decide +kernel, uw_mem 186 rfl rfl⟩
set_option maxRecDepth 20000 in
theorem kP_Rea_38 : u_lkP "UnmarkedPages$Reader" 38 5 4 (.int) := ⟨("UnmarkedPages$Reader", uf_T uf_5, 7), rfl, by decide, rfl, rfl, by decide +kernel, uw_mem 158 rfl rfl⟩
set_option maxRecDepth 20000 in
theorem kF_Rea_31 : u_lkF "UnmarkedPages$Reader" 31 5 6 (.object "UnmarkedPages$Row") := ⟨("UnmarkedPages$Reader", uf_T uf_5, 7), rfl, by decide, rfl, by decide +kernel, Or.inl (uw_mem 160 rfl rfl)⟩
set_option maxRecDepth 20000 in
theorem kF_Rea_12 : u_lkF "UnmarkedPages$Reader" 12 5 0 (.object "UnmarkedPages$Page") := ⟨("UnmarkedPages$Reader", uf_T uf_5, 7), rfl, by decide, rfl, by decide +kernel, Or.inl (uw_mem 150 rfl rfl)⟩
set_option maxRecDepth 20000 in
theorem kF_Rea_102 : u_lkF "UnmarkedPages$Reader" 102 3 3 (.object "UnmarkedPages$Row") := ⟨("UnmarkedPages$Page", uf_T uf_3, 8), rfl, by decide, rfl, by decide +kernel, Or.inl (uw_mem 119 rfl rfl)⟩
set_option maxRecDepth 20000 in
theorem kF_Rea_27 : u_lkF "UnmarkedPages$Reader" 27 5 5 (.object "UnmarkedPages$Row") := ⟨("UnmarkedPages$Reader", uf_T uf_5, 7), rfl, by decide, rfl, by decide +kernel, Or.inl (uw_mem 159 rfl rfl)⟩
set_option maxRecDepth 20000 in
theorem kF_Rea_133 : u_lkF "UnmarkedPages$Reader" 133 3 1 (.object "UnmarkedPages$Row") := ⟨("UnmarkedPages$Page", uf_T uf_3, 8), rfl, by decide, rfl, by decide +kernel, Or.inl (uw_mem 112 rfl rfl)⟩
set_option maxRecDepth 20000 in
theorem kQ_Row_15 : u_lkQ "UnmarkedPages$Row" 15 6 0 (.array .int) := ⟨("UnmarkedPages$Row", uf_T uf_6, 2), rfl, by decide, rfl, rfl, rfl, by decide +kernel, uw_mem 82 rfl rfl⟩
set_option maxRecDepth 20000 in
theorem kF_Sta_14 : u_lkF "UnmarkedPages$State" 14 7 0 (.object "UnmarkedPages$Row") := ⟨("UnmarkedPages$State", uf_T uf_7, 3), rfl, by decide, rfl, by decide +kernel, Or.inl (uw_mem 209 rfl rfl)⟩
set_option maxRecDepth 20000 in
theorem kF_Sta_59 : u_lkF "UnmarkedPages$State" 59 3 0 (.object "UnmarkedPages$Row") := ⟨("UnmarkedPages$Page", uf_T uf_3, 8), rfl, by decide, rfl, by decide +kernel, Or.inl (uw_mem 107 rfl rfl)⟩
set_option maxRecDepth 20000 in
theorem kF_Sta_66 : u_lkF "UnmarkedPages$State" 66 3 1 (.object "UnmarkedPages$Row") := ⟨("UnmarkedPages$Page", uf_T uf_3, 8), rfl, by decide, rfl, by decide +kernel, Or.inl (uw_mem 111 rfl rfl)⟩
set_option maxRecDepth 20000 in
theorem kF_Ump_14 : u_lkF "UnmarkedPages" 14 8 0 (.object "UnmarkedPages$Row") := ⟨("UnmarkedPages", uf_T uf_8, 12), rfl, by decide, rfl, by decide +kernel, Or.inl (uw_mem 286 rfl rfl)⟩
set_option maxRecDepth 20000 in
theorem kF_Ump_35 : u_lkF "UnmarkedPages" 35 8 3 (.object "UnmarkedPages$State") := ⟨("UnmarkedPages", uf_T uf_8, 12), rfl, by decide, rfl, by decide +kernel, Or.inl (uw_mem 289 rfl rfl)⟩
set_option maxRecDepth 20000 in
theorem kF_Ump_162 : u_lkF "UnmarkedPages" 162 3 0 (.object "UnmarkedPages$Row") := ⟨("UnmarkedPages$Page", uf_T uf_3, 8), rfl, by decide, rfl, by decide +kernel, Or.inl (uw_mem 108 rfl rfl)⟩
set_option maxRecDepth 20000 in
theorem kF_Ump_49 : u_lkF "UnmarkedPages" 49 8 8 (.object "UnmarkedPages$Known") := ⟨("UnmarkedPages", uf_T uf_8, 12), rfl, by decide, rfl, by decide +kernel, Or.inl (uw_mem 294 rfl rfl)⟩
set_option maxRecDepth 20000 in
theorem kQ_Mod_7 : u_lkQ "UnmarkedPagesModel" 7 9 0 (.array .int) := ⟨("UnmarkedPagesModel", uf_T uf_9, 32), rfl, by decide, rfl, rfl, rfl, by decide +kernel, uw_mem 742 rfl rfl⟩
set_option maxRecDepth 20000 in
theorem kQ_Mod_13 : u_lkQ "UnmarkedPagesModel" 13 9 1 (.array .int) := ⟨("UnmarkedPagesModel", uf_T uf_9, 32), rfl, by decide, rfl, rfl, rfl, by decide +kernel, uw_mem 743 rfl rfl⟩
set_option maxRecDepth 20000 in
theorem kQ_Mod_16 : u_lkQ "UnmarkedPagesModel" 16 9 3 (.array .int) := ⟨("UnmarkedPagesModel", uf_T uf_9, 32), rfl, by decide, rfl, rfl, rfl, by decide +kernel, uw_mem 745 rfl rfl⟩
set_option maxRecDepth 20000 in
theorem kQ_Mod_19 : u_lkQ "UnmarkedPagesModel" 19 9 5 (.array .int) := ⟨("UnmarkedPagesModel", uf_T uf_9, 32), rfl, by decide, rfl, rfl, rfl, by decide +kernel, uw_mem 747 rfl rfl⟩
set_option maxRecDepth 20000 in
theorem kQ_Mod_22 : u_lkQ "UnmarkedPagesModel" 22 9 7 (.array .int) := ⟨("UnmarkedPagesModel", uf_T uf_9, 32), rfl, by decide, rfl, rfl, rfl, by decide +kernel, uw_mem 749 rfl rfl⟩
set_option maxRecDepth 20000 in
theorem kQ_Mod_25 : u_lkQ "UnmarkedPagesModel" 25 9 8 (.array .int) := ⟨("UnmarkedPagesModel", uf_T uf_9, 32), rfl, by decide, rfl, rfl, rfl, by decide +kernel, uw_mem 750 rfl rfl⟩
set_option maxRecDepth 20000 in
theorem kQ_Mod_28 : u_lkQ "UnmarkedPagesModel" 28 9 10 (.array .int) := ⟨("UnmarkedPagesModel", uf_T uf_9, 32), rfl, by decide, rfl, rfl, rfl, by decide +kernel, uw_mem 752 rfl rfl⟩
set_option maxRecDepth 20000 in
theorem kQ_Mod_31 : u_lkQ "UnmarkedPagesModel" 31 9 11 (.array .int) := ⟨("UnmarkedPagesModel", uf_T uf_9, 32), rfl, by decide, rfl, rfl, rfl, by decide +kernel, uw_mem 753 rfl rfl⟩
set_option maxRecDepth 20000 in
theorem kQ_Mod_34 : u_lkQ "UnmarkedPagesModel" 34 9 13 (.array .int) := ⟨("UnmarkedPagesModel", uf_T uf_9, 32), rfl, by decide, rfl, rfl, rfl, by decide +kernel, uw_mem 755 rfl rfl⟩
set_option maxRecDepth 20000 in
theorem kQ_Mod_37 : u_lkQ "UnmarkedPagesModel" 37 9 14 (.array .int) := ⟨("UnmarkedPagesModel", uf_T uf_9, 32), rfl, by decide, rfl, rfl, rfl, by decide +kernel, uw_mem 756 rfl rfl⟩
set_option maxRecDepth 20000 in
theorem kQ_Mod_40 : u_lkQ "UnmarkedPagesModel" 40 9 20 (.array .int) := ⟨("UnmarkedPagesModel", uf_T uf_9, 32), rfl, by decide, rfl, rfl, rfl, by decide +kernel, uw_mem 762 rfl rfl⟩
set_option maxRecDepth 20000 in
theorem kQ_Mod_43 : u_lkQ "UnmarkedPagesModel" 43 9 21 (.array .int) := ⟨("UnmarkedPagesModel", uf_T uf_9, 32), rfl, by decide, rfl, rfl, rfl, by decide +kernel, uw_mem 763 rfl rfl⟩
set_option maxRecDepth 20000 in
theorem kQ_Mod_46 : u_lkQ "UnmarkedPagesModel" 46 9 22 (.array .int) := ⟨("UnmarkedPagesModel", uf_T uf_9, 32), rfl, by decide, rfl, rfl, rfl, by decide +kernel, uw_mem 764 rfl rfl⟩
set_option maxRecDepth 20000 in
theorem kQ_Mod_49 : u_lkQ "UnmarkedPagesModel" 49 9 23 (.array .int) := ⟨("UnmarkedPagesModel", uf_T uf_9, 32), rfl, by decide, rfl, rfl, rfl, by decide +kernel, uw_mem 765 rfl rfl⟩
set_option maxRecDepth 20000 in
theorem kQ_Mod_52 : u_lkQ "UnmarkedPagesModel" 52 9 24 (.array .int) := ⟨("UnmarkedPagesModel", uf_T uf_9, 32), rfl, by decide, rfl, rfl, rfl, by decide +kernel, uw_mem 766 rfl rfl⟩
set_option maxRecDepth 20000 in
theorem kQ_Mod_55 : u_lkQ "UnmarkedPagesModel" 55 9 26 (.array .int) := ⟨("UnmarkedPagesModel", uf_T uf_9, 32), rfl, by decide, rfl, rfl, rfl, by decide +kernel, uw_mem 768 rfl rfl⟩
set_option maxRecDepth 20000 in
theorem kQ_Mod_58 : u_lkQ "UnmarkedPagesModel" 58 9 27 (.array .int) := ⟨("UnmarkedPagesModel", uf_T uf_9, 32), rfl, by decide, rfl, rfl, rfl, by decide +kernel, uw_mem 769 rfl rfl⟩
set_option maxRecDepth 20000 in
theorem kQ_Mod_61 : u_lkQ "UnmarkedPagesModel" 61 9 29 (.array .char) := ⟨("UnmarkedPagesModel", uf_T uf_9, 32), rfl, by decide, rfl, rfl, rfl, by decide +kernel, uw_mem 771 rfl rfl⟩
set_option maxRecDepth 20000 in
theorem kQ_Mod_65 : u_lkQ "UnmarkedPagesModel" 65 9 30 (.array .int) := ⟨("UnmarkedPagesModel", uf_T uf_9, 32), rfl, by decide, rfl, rfl, rfl, by decide +kernel, uw_mem 772 rfl rfl⟩
set_option maxRecDepth 20000 in
theorem kQ_Mod_68 : u_lkQ "UnmarkedPagesModel" 68 9 31 (.array .int) := ⟨("UnmarkedPagesModel", uf_T uf_9, 32), rfl, by decide, rfl, rfl, rfl, by decide +kernel, uw_mem 773 rfl rfl⟩
set_option maxRecDepth 20000 in
theorem kF_Mod_94 : u_lkF "UnmarkedPagesModel" 94 9 9 (.int) := ⟨("UnmarkedPagesModel", uf_T uf_9, 32), rfl, by decide, rfl, by decide +kernel, Or.inl (uw_mem 751 rfl rfl)⟩
set_option maxRecDepth 20000 in
theorem kF_Mod_25 : u_lkF "UnmarkedPagesModel" 25 9 8 (.array .int) := ⟨("UnmarkedPagesModel", uf_T uf_9, 32), rfl, by decide, rfl, by decide +kernel, Or.inl (uw_mem 750 rfl rfl)⟩
set_option maxRecDepth 20000 in
theorem kP_Mod_94 : u_lkP "UnmarkedPagesModel" 94 9 9 (.int) := ⟨("UnmarkedPagesModel", uf_T uf_9, 32), rfl, by decide, rfl, rfl, by decide +kernel, uw_mem 751 rfl rfl⟩
set_option maxRecDepth 20000 in
theorem kF_Mod_104 : u_lkF "UnmarkedPagesModel" 104 9 16 (.int) := ⟨("UnmarkedPagesModel", uf_T uf_9, 32), rfl, by decide, rfl, by decide +kernel, Or.inl (uw_mem 758 rfl rfl)⟩
set_option maxRecDepth 20000 in
theorem kP_Mod_104 : u_lkP "UnmarkedPagesModel" 104 9 16 (.int) := ⟨("UnmarkedPagesModel", uf_T uf_9, 32), rfl, by decide, rfl, rfl, by decide +kernel, uw_mem 758 rfl rfl⟩
set_option maxRecDepth 20000 in
theorem kF_Mod_40 : u_lkF "UnmarkedPagesModel" 40 9 20 (.array .int) := ⟨("UnmarkedPagesModel", uf_T uf_9, 32), rfl, by decide, rfl, by decide +kernel, Or.inl (uw_mem 762 rfl rfl)⟩
set_option maxRecDepth 20000 in
theorem kF_Mod_147 : u_lkF "UnmarkedPagesModel" 147 9 25 (.int) := ⟨("UnmarkedPagesModel", uf_T uf_9, 32), rfl, by decide, rfl, by decide +kernel, Or.inl (uw_mem 767 rfl rfl)⟩
set_option maxRecDepth 20000 in
theorem kF_Mod_206 : u_lkF "UnmarkedPagesModel" 206 9 4 (.boolean) := ⟨("UnmarkedPagesModel", uf_T uf_9, 32), rfl, by decide, rfl, by decide +kernel, Or.inl (uw_mem 746 rfl rfl)⟩
set_option maxRecDepth 20000 in
theorem kF_Mod_65 : u_lkF "UnmarkedPagesModel" 65 9 30 (.array .int) := ⟨("UnmarkedPagesModel", uf_T uf_9, 32), rfl, by decide, rfl, by decide +kernel, Or.inl (uw_mem 772 rfl rfl)⟩
set_option maxRecDepth 20000 in
theorem kF_Mod_68 : u_lkF "UnmarkedPagesModel" 68 9 31 (.array .int) := ⟨("UnmarkedPagesModel", uf_T uf_9, 32), rfl, by decide, rfl, by decide +kernel, Or.inl (uw_mem 773 rfl rfl)⟩
set_option maxRecDepth 20000 in
theorem kF_Mod_124 : u_lkF "UnmarkedPagesModel" 124 9 12 (.int) := ⟨("UnmarkedPagesModel", uf_T uf_9, 32), rfl, by decide, rfl, by decide +kernel, Or.inl (uw_mem 754 rfl rfl)⟩
set_option maxRecDepth 20000 in
theorem kQ_Cod_14 : u_lkQ "UnmarkedPages$Codes" 14 0 0 (.object "UnmarkedPages$Row") := ⟨("UnmarkedPages$Codes", uf_T uf_0, 4), rfl, by decide, rfl, rfl, rfl, by decide +kernel, uw_mem 269 rfl rfl⟩
set_option maxRecDepth 20000 in
theorem kQ_Cod_20 : u_lkQ "UnmarkedPages$Codes" 20 0 1 (.object "UnmarkedPages$Row") := ⟨("UnmarkedPages$Codes", uf_T uf_0, 4), rfl, by decide, rfl, rfl, rfl, by decide +kernel, uw_mem 271 rfl rfl⟩
set_option maxRecDepth 20000 in
theorem kQ_Cod_23 : u_lkQ "UnmarkedPages$Codes" 23 0 2 (.object "UnmarkedPages$Row") := ⟨("UnmarkedPages$Codes", uf_T uf_0, 4), rfl, by decide, rfl, rfl, rfl, by decide +kernel, uw_mem 273 rfl rfl⟩
set_option maxRecDepth 20000 in
theorem kQ_Cod_26 : u_lkQ "UnmarkedPages$Codes" 26 0 3 (.object "UnmarkedPages$Row") := ⟨("UnmarkedPages$Codes", uf_T uf_0, 4), rfl, by decide, rfl, rfl, rfl, by decide +kernel, uw_mem 275 rfl rfl⟩
set_option maxRecDepth 20000 in
theorem kQ_Kno_11 : u_lkQ "UnmarkedPages$Known" 11 2 0 (.array (.object "UnmarkedPages$FrontList")) := ⟨("UnmarkedPages$Known", uf_T uf_2, 4), rfl, by decide, rfl, rfl, rfl, by decide +kernel, uw_mem 246 rfl rfl⟩
set_option maxRecDepth 20000 in
theorem kQ_Kno_20 : u_lkQ "UnmarkedPages$Known" 20 2 1 (.object "UnmarkedPages$FrontList") := ⟨("UnmarkedPages$Known", uf_T uf_2, 4), rfl, by decide, rfl, rfl, rfl, by decide +kernel, uw_mem 247 rfl rfl⟩
set_option maxRecDepth 20000 in
theorem kQ_Kno_27 : u_lkQ "UnmarkedPages$Known" 27 2 2 (.object "UnmarkedPages$Row") := ⟨("UnmarkedPages$Known", uf_T uf_2, 4), rfl, by decide, rfl, rfl, rfl, by decide +kernel, uw_mem 249 rfl rfl⟩
set_option maxRecDepth 20000 in
theorem kQ_Kno_31 : u_lkQ "UnmarkedPages$Known" 31 2 3 (.object "UnmarkedPages$Row") := ⟨("UnmarkedPages$Known", uf_T uf_2, 4), rfl, by decide, rfl, rfl, rfl, by decide +kernel, uw_mem 250 rfl rfl⟩
set_option maxRecDepth 20000 in
theorem kF_Kno_84 : u_lkF "UnmarkedPages$Known" 84 3 4 (.object "UnmarkedPages$Row") := ⟨("UnmarkedPages$Page", uf_T uf_3, 8), rfl, by decide, rfl, by decide +kernel, Or.inl (uw_mem 121 rfl rfl)⟩
set_option maxRecDepth 20000 in
theorem kF_Kno_57 : u_lkF "UnmarkedPages$Known" 57 3 3 (.object "UnmarkedPages$Row") := ⟨("UnmarkedPages$Page", uf_T uf_3, 8), rfl, by decide, rfl, by decide +kernel, Or.inl (uw_mem 118 rfl rfl)⟩
set_option maxRecDepth 20000 in
theorem kF_Kno_76 : u_lkF "UnmarkedPages$Known" 76 3 6 (.object "UnmarkedPages$Row") := ⟨("UnmarkedPages$Page", uf_T uf_3, 8), rfl, by decide, rfl, by decide +kernel, Or.inl (uw_mem 126 rfl rfl)⟩
set_option maxRecDepth 20000 in
theorem kF_Kno_134 : u_lkF "UnmarkedPages$Known" 134 3 7 (.object "UnmarkedPages$Row") := ⟨("UnmarkedPages$Page", uf_T uf_3, 8), rfl, by decide, rfl, by decide +kernel, Or.inl (uw_mem 128 rfl rfl)⟩
set_option maxRecDepth 20000 in
theorem kF_Kno_139 : u_lkF "UnmarkedPages$Known" 139 3 0 (.object "UnmarkedPages$Row") := ⟨("UnmarkedPages$Page", uf_T uf_3, 8), rfl, by decide, rfl, by decide +kernel, Or.inl (uw_mem 106 rfl rfl)⟩
set_option maxRecDepth 20000 in
theorem kQ_Pag_14 : u_lkQ "UnmarkedPages$Page" 14 3 0 (.object "UnmarkedPages$Row") := ⟨("UnmarkedPages$Page", uf_T uf_3, 8), rfl, by decide, rfl, rfl, rfl, by decide +kernel, uw_mem 104 rfl rfl⟩
set_option maxRecDepth 20000 in
theorem kQ_Pag_20 : u_lkQ "UnmarkedPages$Page" 20 3 1 (.object "UnmarkedPages$Row") := ⟨("UnmarkedPages$Page", uf_T uf_3, 8), rfl, by decide, rfl, rfl, rfl, by decide +kernel, uw_mem 109 rfl rfl⟩
set_option maxRecDepth 20000 in
theorem kQ_Pag_23 : u_lkQ "UnmarkedPages$Page" 23 3 2 (.object "UnmarkedPages$Row") := ⟨("UnmarkedPages$Page", uf_T uf_3, 8), rfl, by decide, rfl, rfl, rfl, by decide +kernel, uw_mem 113 rfl rfl⟩
set_option maxRecDepth 20000 in
theorem kQ_Pag_26 : u_lkQ "UnmarkedPages$Page" 26 3 3 (.object "UnmarkedPages$Row") := ⟨("UnmarkedPages$Page", uf_T uf_3, 8), rfl, by decide, rfl, rfl, rfl, by decide +kernel, uw_mem 116 rfl rfl⟩
set_option maxRecDepth 20000 in
theorem kQ_Pag_29 : u_lkQ "UnmarkedPages$Page" 29 3 4 (.object "UnmarkedPages$Row") := ⟨("UnmarkedPages$Page", uf_T uf_3, 8), rfl, by decide, rfl, rfl, rfl, by decide +kernel, uw_mem 120 rfl rfl⟩
set_option maxRecDepth 20000 in
theorem kQ_Pag_32 : u_lkQ "UnmarkedPages$Page" 32 3 5 (.object "UnmarkedPages$Row") := ⟨("UnmarkedPages$Page", uf_T uf_3, 8), rfl, by decide, rfl, rfl, rfl, by decide +kernel, uw_mem 123 rfl rfl⟩
set_option maxRecDepth 20000 in
theorem kQ_Pag_35 : u_lkQ "UnmarkedPages$Page" 35 3 6 (.object "UnmarkedPages$Row") := ⟨("UnmarkedPages$Page", uf_T uf_3, 8), rfl, by decide, rfl, rfl, rfl, by decide +kernel, uw_mem 125 rfl rfl⟩
set_option maxRecDepth 20000 in
theorem kQ_Pag_38 : u_lkQ "UnmarkedPages$Page" 38 3 7 (.object "UnmarkedPages$Row") := ⟨("UnmarkedPages$Page", uf_T uf_3, 8), rfl, by decide, rfl, rfl, rfl, by decide +kernel, uw_mem 127 rfl rfl⟩
set_option maxRecDepth 20000 in
theorem kQ_Pth_14 : u_lkQ "UnmarkedPages$PathReader" 14 4 0 (.object "UnmarkedPages$Row") := ⟨("UnmarkedPages$PathReader", uf_T uf_4, 3), rfl, by decide, rfl, rfl, rfl, by decide +kernel, uw_mem 184 rfl rfl⟩
set_option maxRecDepth 20000 in
theorem kQ_Pth_20 : u_lkQ "UnmarkedPages$PathReader" 20 4 1 (.object "UnmarkedPages$Row") := ⟨("UnmarkedPages$PathReader", uf_T uf_4, 3), rfl, by decide, rfl, rfl, rfl, by decide +kernel, uw_mem 185 rfl rfl⟩
set_option maxRecDepth 20000 in
theorem kF_Pth_42 : u_lkF "UnmarkedPages$PathReader" 42 3 3 (.object "UnmarkedPages$Row") := ⟨("UnmarkedPages$Page", uf_T uf_3, 8), rfl, by decide, rfl, by decide +kernel, Or.inl (uw_mem 117 rfl rfl)⟩
set_option maxRecDepth 20000 in
theorem kF_Rea_38 : u_lkF "UnmarkedPages$Reader" 38 5 4 (.int) := ⟨("UnmarkedPages$Reader", uf_T uf_5, 7), rfl, by decide, rfl, by decide +kernel, Or.inl (uw_mem 158 rfl rfl)⟩
set_option maxRecDepth 20000 in
theorem kF_Rea_120 : u_lkF "UnmarkedPages$Reader" 120 3 7 (.object "UnmarkedPages$Row") := ⟨("UnmarkedPages$Page", uf_T uf_3, 8), rfl, by decide, rfl, by decide +kernel, Or.inl (uw_mem 129 rfl rfl)⟩
set_option maxRecDepth 20000 in
theorem kF_Mod_28 : u_lkF "UnmarkedPagesModel" 28 9 10 (.array .int) := ⟨("UnmarkedPagesModel", uf_T uf_9, 32), rfl, by decide, rfl, by decide +kernel, Or.inl (uw_mem 752 rfl rfl)⟩
set_option maxRecDepth 20000 in
theorem kQ_Rea_12 : u_lkQ "UnmarkedPages$Reader" 12 5 0 (.object "UnmarkedPages$Page") := ⟨("UnmarkedPages$Reader", uf_T uf_5, 7), rfl, by decide, rfl, rfl, rfl, by decide +kernel, uw_mem 150 rfl rfl⟩
set_option maxRecDepth 20000 in
theorem kQ_Rea_27 : u_lkQ "UnmarkedPages$Reader" 27 5 5 (.object "UnmarkedPages$Row") := ⟨("UnmarkedPages$Reader", uf_T uf_5, 7), rfl, by decide, rfl, rfl, rfl, by decide +kernel, uw_mem 159 rfl rfl⟩
set_option maxRecDepth 20000 in
theorem kQ_Rea_31 : u_lkQ "UnmarkedPages$Reader" 31 5 6 (.object "UnmarkedPages$Row") := ⟨("UnmarkedPages$Reader", uf_T uf_5, 7), rfl, by decide, rfl, rfl, rfl, by decide +kernel, uw_mem 160 rfl rfl⟩
set_option maxRecDepth 20000 in
theorem kF_Rea_130 : u_lkF "UnmarkedPages$Reader" 130 3 2 (.object "UnmarkedPages$Row") := ⟨("UnmarkedPages$Page", uf_T uf_3, 8), rfl, by decide, rfl, by decide +kernel, Or.inl (uw_mem 114 rfl rfl)⟩
set_option maxRecDepth 20000 in
theorem kQ_Sta_14 : u_lkQ "UnmarkedPages$State" 14 7 0 (.object "UnmarkedPages$Row") := ⟨("UnmarkedPages$State", uf_T uf_7, 3), rfl, by decide, rfl, rfl, rfl, by decide +kernel, uw_mem 209 rfl rfl⟩
set_option maxRecDepth 20000 in
theorem kQ_Sta_22 : u_lkQ "UnmarkedPages$State" 22 7 1 (.array (.object "UnmarkedPages$Page")) := ⟨("UnmarkedPages$State", uf_T uf_7, 3), rfl, by decide, rfl, rfl, rfl, by decide +kernel, uw_mem 210 rfl rfl⟩
set_option maxRecDepth 20000 in
theorem kP_Sta_34 : u_lkP "UnmarkedPages$State" 34 7 2 (.int) := ⟨("UnmarkedPages$State", uf_T uf_7, 3), rfl, by decide, rfl, rfl, by decide +kernel, uw_mem 211 rfl rfl⟩
set_option maxRecDepth 20000 in
theorem kF_Ump_217 : u_lkF "UnmarkedPages" 217 3 2 (.object "UnmarkedPages$Row") := ⟨("UnmarkedPages$Page", uf_T uf_3, 8), rfl, by decide, rfl, by decide +kernel, Or.inl (uw_mem 115 rfl rfl)⟩
set_option maxRecDepth 20000 in
theorem kF_Ump_220 : u_lkF "UnmarkedPages" 220 3 5 (.object "UnmarkedPages$Row") := ⟨("UnmarkedPages$Page", uf_T uf_3, 8), rfl, by decide, rfl, by decide +kernel, Or.inl (uw_mem 124 rfl rfl)⟩
set_option maxRecDepth 20000 in
theorem kF_Ump_226 : u_lkF "UnmarkedPages" 226 3 4 (.object "UnmarkedPages$Row") := ⟨("UnmarkedPages$Page", uf_T uf_3, 8), rfl, by decide, rfl, by decide +kernel, Or.inl (uw_mem 122 rfl rfl)⟩
set_option maxRecDepth 20000 in
theorem kF_Ump_235 : u_lkF "UnmarkedPages" 235 3 7 (.object "UnmarkedPages$Row") := ⟨("UnmarkedPages$Page", uf_T uf_3, 8), rfl, by decide, rfl, by decide +kernel, Or.inl (uw_mem 130 rfl rfl)⟩
set_option maxRecDepth 20000 in
theorem kF_Ump_28 : u_lkF "UnmarkedPages" 28 8 2 (.object "UnmarkedPages$PathReader") := ⟨("UnmarkedPages", uf_T uf_8, 12), rfl, by decide, rfl, by decide +kernel, Or.inl (uw_mem 288 rfl rfl)⟩
set_option maxRecDepth 20000 in
theorem kF_Ump_98 : u_lkF "UnmarkedPages" 98 7 2 (.int) := ⟨("UnmarkedPages$State", uf_T uf_7, 3), rfl, by decide, rfl, by decide +kernel, Or.inl (uw_mem 212 rfl rfl)⟩
set_option maxRecDepth 20000 in
theorem kP_Mod_124 : u_lkP "UnmarkedPagesModel" 124 9 12 (.int) := ⟨("UnmarkedPagesModel", uf_T uf_9, 32), rfl, by decide, rfl, rfl, by decide +kernel, uw_mem 754 rfl rfl⟩
set_option maxRecDepth 20000 in
theorem kF_Kno_47 : u_lkF "UnmarkedPages$Known" 47 0 0 (.object "UnmarkedPages$Row") := ⟨("UnmarkedPages$Codes", uf_T uf_0, 4), rfl, by decide, rfl, by decide +kernel, Or.inr ⟨"UnmarkedPages", by decide +kernel⟩⟩
set_option maxRecDepth 20000 in
theorem kF_Kno_50 : u_lkF "UnmarkedPages$Known" 50 3 1 (.object "UnmarkedPages$Row") := ⟨("UnmarkedPages$Page", uf_T uf_3, 8), rfl, by decide, rfl, by decide +kernel, Or.inl (uw_mem 110 rfl rfl)⟩
set_option maxRecDepth 20000 in
theorem kF_Kno_64 : u_lkF "UnmarkedPages$Known" 64 0 1 (.object "UnmarkedPages$Row") := ⟨("UnmarkedPages$Codes", uf_T uf_0, 4), rfl, by decide, rfl, by decide +kernel, Or.inr ⟨"UnmarkedPages", by decide +kernel⟩⟩
set_option maxRecDepth 20000 in
theorem kF_Kno_70 : u_lkF "UnmarkedPages$Known" 70 0 2 (.object "UnmarkedPages$Row") := ⟨("UnmarkedPages$Codes", uf_T uf_0, 4), rfl, by decide, rfl, by decide +kernel, Or.inr ⟨"UnmarkedPages", by decide +kernel⟩⟩
set_option maxRecDepth 20000 in
theorem kF_Kno_79 : u_lkF "UnmarkedPages$Known" 79 0 3 (.object "UnmarkedPages$Row") := ⟨("UnmarkedPages$Codes", uf_T uf_0, 4), rfl, by decide, rfl, by decide +kernel, Or.inr ⟨"UnmarkedPages", by decide +kernel⟩⟩
set_option maxRecDepth 20000 in
theorem kQ_Ump_14 : u_lkQ "UnmarkedPages" 14 8 0 (.object "UnmarkedPages$Row") := ⟨("UnmarkedPages", uf_T uf_8, 12), rfl, by decide, rfl, rfl, rfl, by decide +kernel, uw_mem 286 rfl rfl⟩
set_option maxRecDepth 20000 in
theorem kQ_Ump_21 : u_lkQ "UnmarkedPages" 21 8 1 (.object "UnmarkedPages$Reader") := ⟨("UnmarkedPages", uf_T uf_8, 12), rfl, by decide, rfl, rfl, rfl, by decide +kernel, uw_mem 287 rfl rfl⟩
set_option maxRecDepth 20000 in
theorem kQ_Ump_28 : u_lkQ "UnmarkedPages" 28 8 2 (.object "UnmarkedPages$PathReader") := ⟨("UnmarkedPages", uf_T uf_8, 12), rfl, by decide, rfl, rfl, rfl, by decide +kernel, uw_mem 288 rfl rfl⟩
set_option maxRecDepth 20000 in
theorem kQ_Ump_35 : u_lkQ "UnmarkedPages" 35 8 3 (.object "UnmarkedPages$State") := ⟨("UnmarkedPages", uf_T uf_8, 12), rfl, by decide, rfl, rfl, rfl, by decide +kernel, uw_mem 289 rfl rfl⟩
set_option maxRecDepth 20000 in
theorem kQ_Ump_39 : u_lkQ "UnmarkedPages" 39 8 4 (.array (.object "UnmarkedPages$State")) := ⟨("UnmarkedPages", uf_T uf_8, 12), rfl, by decide, rfl, rfl, rfl, by decide +kernel, uw_mem 290 rfl rfl⟩
set_option maxRecDepth 20000 in
theorem kQ_Ump_43 : u_lkQ "UnmarkedPages" 43 8 6 (.object "UnmarkedPages$State") := ⟨("UnmarkedPages", uf_T uf_8, 12), rfl, by decide, rfl, rfl, rfl, by decide +kernel, uw_mem 292 rfl rfl⟩
set_option maxRecDepth 20000 in
theorem kQ_Ump_49 : u_lkQ "UnmarkedPages" 49 8 8 (.object "UnmarkedPages$Known") := ⟨("UnmarkedPages", uf_T uf_8, 12), rfl, by decide, rfl, rfl, rfl, by decide +kernel, uw_mem 294 rfl rfl⟩
set_option maxRecDepth 20000 in
theorem kQ_Ump_55 : u_lkQ "UnmarkedPages" 55 8 9 (.array (.object "UnmarkedPages$Codes")) := ⟨("UnmarkedPages", uf_T uf_8, 12), rfl, by decide, rfl, rfl, rfl, by decide +kernel, uw_mem 295 rfl rfl⟩
set_option maxRecDepth 20000 in
theorem kQ_Ump_59 : u_lkQ "UnmarkedPages" 59 8 10 (.object "UnmarkedPages$Known") := ⟨("UnmarkedPages", uf_T uf_8, 12), rfl, by decide, rfl, rfl, rfl, by decide +kernel, uw_mem 296 rfl rfl⟩
set_option maxRecDepth 20000 in
theorem kQ_Ump_63 : u_lkQ "UnmarkedPages" 63 8 11 (.object "UnmarkedPages$Codes") := ⟨("UnmarkedPages", uf_T uf_8, 12), rfl, by decide, rfl, rfl, rfl, by decide +kernel, uw_mem 297 rfl rfl⟩
set_option maxRecDepth 20000 in
theorem kF_Ump_39 : u_lkF "UnmarkedPages" 39 8 4 (.array (.object "UnmarkedPages$State")) := ⟨("UnmarkedPages", uf_T uf_8, 12), rfl, by decide, rfl, by decide +kernel, Or.inl (uw_mem 290 rfl rfl)⟩
set_option maxRecDepth 20000 in
theorem kF_Ump_210 : u_lkF "UnmarkedPages" 210 2 1 (.object "UnmarkedPages$FrontList") := ⟨("UnmarkedPages$Known", uf_T uf_2, 4), rfl, by decide, rfl, by decide +kernel, Or.inl (uw_mem 248 rfl rfl)⟩
set_option maxRecDepth 20000 in
theorem kF_Ump_147 : u_lkF "UnmarkedPages" 147 8 5 (.int) := ⟨("UnmarkedPages", uf_T uf_8, 12), rfl, by decide, rfl, by decide +kernel, Or.inl (uw_mem 291 rfl rfl)⟩
set_option maxRecDepth 20000 in
theorem kF_Rea_45 : u_lkF "UnmarkedPages$Reader" 45 3 0 (.object "UnmarkedPages$Row") := ⟨("UnmarkedPages$Page", uf_T uf_3, 8), rfl, by decide, rfl, by decide +kernel, Or.inl (uw_mem 105 rfl rfl)⟩
set_option maxRecDepth 20000 in
theorem kF_Ump_43 : u_lkF "UnmarkedPages" 43 8 6 (.object "UnmarkedPages$State") := ⟨("UnmarkedPages", uf_T uf_8, 12), rfl, by decide, rfl, by decide +kernel, Or.inl (uw_mem 292 rfl rfl)⟩
set_option maxRecDepth 20000 in
theorem kP_Ump_154 : u_lkP "UnmarkedPages" 154 8 7 (.boolean) := ⟨("UnmarkedPages", uf_T uf_8, 12), rfl, by decide, rfl, rfl, by decide +kernel, uw_mem 293 rfl rfl⟩
set_option maxRecDepth 20000 in
theorem kP_Ump_147 : u_lkP "UnmarkedPages" 147 8 5 (.int) := ⟨("UnmarkedPages", uf_T uf_8, 12), rfl, by decide, rfl, rfl, by decide +kernel, uw_mem 291 rfl rfl⟩
set_option maxRecDepth 20000 in
theorem kF_Mod_79 : u_lkF "UnmarkedPagesModel" 79 9 17 (.int) := ⟨("UnmarkedPagesModel", uf_T uf_9, 32), rfl, by decide, rfl, by decide +kernel, Or.inl (uw_mem 759 rfl rfl)⟩
set_option maxRecDepth 20000 in
theorem kF_Mod_85 : u_lkF "UnmarkedPagesModel" 85 9 18 (.int) := ⟨("UnmarkedPagesModel", uf_T uf_9, 32), rfl, by decide, rfl, by decide +kernel, Or.inl (uw_mem 760 rfl rfl)⟩
set_option maxRecDepth 20000 in
theorem kF_Mod_88 : u_lkF "UnmarkedPagesModel" 88 9 19 (.int) := ⟨("UnmarkedPagesModel", uf_T uf_9, 32), rfl, by decide, rfl, by decide +kernel, Or.inl (uw_mem 761 rfl rfl)⟩
set_option maxRecDepth 20000 in
theorem kF_Ump_21 : u_lkF "UnmarkedPages" 21 8 1 (.object "UnmarkedPages$Reader") := ⟨("UnmarkedPages", uf_T uf_8, 12), rfl, by decide, rfl, by decide +kernel, Or.inl (uw_mem 287 rfl rfl)⟩
set_option maxRecDepth 20000 in
theorem kF_Ump_94 : u_lkF "UnmarkedPages" 94 5 1 (.int) := ⟨("UnmarkedPages$Reader", uf_T uf_5, 7), rfl, by decide, rfl, by decide +kernel, Or.inl (uw_mem 152 rfl rfl)⟩
set_option maxRecDepth 20000 in
theorem kF_Ump_105 : u_lkF "UnmarkedPages" 105 5 0 (.object "UnmarkedPages$Page") := ⟨("UnmarkedPages$Reader", uf_T uf_5, 7), rfl, by decide, rfl, by decide +kernel, Or.inl (uw_mem 151 rfl rfl)⟩
set_option maxRecDepth 20000 in
theorem kP_Ump_98 : u_lkP "UnmarkedPages" 98 7 2 (.int) := ⟨("UnmarkedPages$State", uf_T uf_7, 3), rfl, by decide, rfl, rfl, by decide +kernel, uw_mem 212 rfl rfl⟩
set_option maxRecDepth 20000 in
theorem kF_Ump_141 : u_lkF "UnmarkedPages" 141 5 2 (.int) := ⟨("UnmarkedPages$Reader", uf_T uf_5, 7), rfl, by decide, rfl, by decide +kernel, Or.inl (uw_mem 155 rfl rfl)⟩
set_option maxRecDepth 20000 in
theorem kF_Ump_144 : u_lkF "UnmarkedPages" 144 5 3 (.int) := ⟨("UnmarkedPages$Reader", uf_T uf_5, 7), rfl, by decide, rfl, by decide +kernel, Or.inl (uw_mem 156 rfl rfl)⟩
set_option maxRecDepth 20000 in
theorem kF_Ump_154 : u_lkF "UnmarkedPages" 154 8 7 (.boolean) := ⟨("UnmarkedPages", uf_T uf_8, 12), rfl, by decide, rfl, by decide +kernel, Or.inl (uw_mem 293 rfl rfl)⟩
set_option maxRecDepth 20000 in
theorem kF_Ump_59 : u_lkF "UnmarkedPages" 59 8 10 (.object "UnmarkedPages$Known") := ⟨("UnmarkedPages", uf_T uf_8, 12), rfl, by decide, rfl, by decide +kernel, Or.inl (uw_mem 296 rfl rfl)⟩
/-! what links: methods -/
def u_CV (own : String) (idx ci : Nat) (M : uM) (n : Nat) : Prop := u_MO M n ∧ Cond.methodLink own idx M.y ∈ uw_W ∧ Cond.instanceMethod M.y ∈ uw_W ∧ Cond.selects M.y.cls M.y M.y ∈ uw_W ∧ ∃ r : vw_C, u_cls[ci]? = some r ∧ r.1 = M.y.cls
def u_CS (own : String) (idx : Nat) (M : uM) (n : Nat) : Prop := u_MO M n ∧ (Cond.methodLink own idx M.y ∈ uw_W ∨ ∃ host, (own, idx, M.y, host) ∈ u_nestM) ∧ Cond.static M.y ∈ uw_W
def u_CI (own : String) (idx : Nat) (M : uM) (n : Nat) : Prop := u_MO M n ∧ (Cond.methodLink own idx M.y ∈ uw_W ∨ ∃ host, (own, idx, M.y, host) ∈ u_nestM) ∧ Cond.instanceMethod M.y ∈ uw_W ∧ M.ret = none ∧ M.y.name = "<init>"
set_option maxRecDepth 20000 in
theorem mo_Cod_rowAt : u_MO mCod_rowAt 1 := ⟨by decide, rfl, by decide, by decide, ⟨by decide, by decide⟩, by decide +kernel, uw_mem 584 rfl rfl, uw_mem 62 rfl rfl⟩
set_option maxRecDepth 20000 in
theorem mo_Cod_bitsOfCode : u_MO mCod_bitsOfCode 1 := ⟨by decide, rfl, by decide, by decide, ⟨by decide, by decide⟩, by decide +kernel, uw_mem 588 rfl rfl, uw_mem 62 rfl rfl⟩
set_option maxRecDepth 20000 in
theorem mo_Frl_size : u_MO mFrl_size 0 := ⟨by decide, rfl, by decide, by decide, ⟨by decide, by decide⟩, by decide +kernel, uw_mem 522 rfl rfl, uw_mem 61 rfl rfl⟩
set_option maxRecDepth 20000 in
theorem mo_Frl_clear : u_MO mFrl_clear 0 := ⟨by decide, rfl, by decide, by decide, ⟨by decide, by decide⟩, by decide +kernel, uw_mem 604 rfl rfl, uw_mem 61 rfl rfl⟩
set_option maxRecDepth 20000 in
theorem mo_Frl_at : u_MO mFrl_at 1 := ⟨by decide, rfl, by decide, by decide, ⟨by decide, by decide⟩, by decide +kernel, uw_mem 717 rfl rfl, uw_mem 61 rfl rfl⟩
set_option maxRecDepth 20000 in
theorem mo_Frl_placeOf : u_MO mFrl_placeOf 1 := ⟨by decide, rfl, by decide, by decide, ⟨by decide, by decide⟩, by decide +kernel, uw_mem 518 rfl rfl, uw_mem 61 rfl rfl⟩
set_option maxRecDepth 20000 in
theorem mo_Kno_namesIn : u_MO mKno_namesIn 1 := ⟨by decide, rfl, by decide, by decide, ⟨by decide, by decide⟩, by decide +kernel, uw_mem 514 rfl rfl, uw_mem 60 rfl rfl⟩
set_option maxRecDepth 20000 in
theorem mo_Rea_hasFault : u_MO mRea_hasFault 0 := ⟨by decide, rfl, by decide, by decide, ⟨by decide, by decide⟩, by decide +kernel, uw_mem 489 rfl rfl, uw_mem 56 rfl rfl⟩
set_option maxRecDepth 20000 in
theorem mo_Rea_tell : u_MO mRea_tell 3 := ⟨by decide, rfl, by decide, by decide, ⟨by decide, by decide⟩, by decide +kernel, uw_mem 419 rfl rfl, uw_mem 56 rfl rfl⟩
set_option maxRecDepth 20000 in
theorem mo_Row_size : u_MO mRow_size 0 := ⟨by decide, rfl, by decide, by decide, ⟨by decide, by decide⟩, by decide +kernel, uw_mem 402 rfl rfl, uw_mem 54 rfl rfl⟩
set_option maxRecDepth 20000 in
theorem mo_Row_clear : u_MO mRow_clear 0 := ⟨by decide, rfl, by decide, by decide, ⟨by decide, by decide⟩, by decide +kernel, uw_mem 397 rfl rfl, uw_mem 54 rfl rfl⟩
set_option maxRecDepth 20000 in
theorem mo_Row_at : u_MO mRow_at 1 := ⟨by decide, rfl, by decide, by decide, ⟨by decide, by decide⟩, by decide +kernel, uw_mem 337 rfl rfl, uw_mem 54 rfl rfl⟩
set_option maxRecDepth 20000 in
theorem mo_Row_add : u_MO mRow_add 1 := ⟨by decide, rfl, by decide, by decide, ⟨by decide, by decide⟩, by decide +kernel, uw_mem 407 rfl rfl, uw_mem 54 rfl rfl⟩
set_option maxRecDepth 20000 in
theorem mo_Row_put : u_MO mRow_put 2 := ⟨by decide, rfl, by decide, by decide, ⟨by decide, by decide⟩, by decide +kernel, uw_mem 373 rfl rfl, uw_mem 54 rfl rfl⟩
set_option maxRecDepth 20000 in
theorem mo_Row_fill : u_MO mRow_fill 1 := ⟨by decide, rfl, by decide, by decide, ⟨by decide, by decide⟩, by decide +kernel, uw_mem 207 rfl rfl, uw_mem 54 rfl rfl⟩
set_option maxRecDepth 20000 in
theorem mo_Row_last : u_MO mRow_last 0 := ⟨by decide, rfl, by decide, by decide, ⟨by decide, by decide⟩, by decide +kernel, uw_mem 438 rfl rfl, uw_mem 54 rfl rfl⟩
set_option maxRecDepth 20000 in
theorem mo_Row_removeLast : u_MO mRow_removeLast 0 := ⟨by decide, rfl, by decide, by decide, ⟨by decide, by decide⟩, by decide +kernel, uw_mem 447 rfl rfl, uw_mem 54 rfl rfl⟩
set_option maxRecDepth 20000 in
theorem mo_Row_placeOf : u_MO mRow_placeOf 1 := ⟨by decide, rfl, by decide, by decide, ⟨by decide, by decide⟩, by decide +kernel, uw_mem 703 rfl rfl, uw_mem 54 rfl rfl⟩
set_option maxRecDepth 20000 in
theorem mo_Row_countOf : u_MO mRow_countOf 1 := ⟨by decide, rfl, by decide, by decide, ⟨by decide, by decide⟩, by decide +kernel, uw_mem 381 rfl rfl, uw_mem 54 rfl rfl⟩
set_option maxRecDepth 20000 in
theorem mo_Sta_hasPage : u_MO mSta_hasPage 1 := ⟨by decide, rfl, by decide, by decide, ⟨by decide, by decide⟩, by decide +kernel, uw_mem 613 rfl rfl, uw_mem 59 rfl rfl⟩
set_option maxRecDepth 20000 in
theorem mo_Sta_pageAt : u_MO mSta_pageAt 1 := ⟨by decide, rfl, by decide, by decide, ⟨by decide, by decide⟩, by decide +kernel, uw_mem 356 rfl rfl, uw_mem 59 rfl rfl⟩
set_option maxRecDepth 20000 in
theorem mo_Sta_bringToFront : u_MO mSta_bringToFront 1 := ⟨by decide, rfl, by decide, by decide, ⟨by decide, by decide⟩, by decide +kernel, uw_mem 621 rfl rfl, uw_mem 59 rfl rfl⟩
set_option maxRecDepth 20000 in
theorem mo_Ump_codesOf : u_MO mUmp_codesOf 1 := ⟨by decide, rfl, by decide, by decide, ⟨by decide, by decide⟩, by decide +kernel, uw_mem 493 rfl rfl, uw_mem 53 rfl rfl⟩
set_option maxRecDepth 20000 in
theorem mo_Ump_isName : u_MO mUmp_isName 1 := ⟨by decide, rfl, by decide, by decide, ⟨by decide, by decide⟩, by decide +kernel, uw_mem 329 rfl rfl, uw_mem 53 rfl rfl⟩
set_option maxRecDepth 20000 in
theorem mo_Ump_isNameLetter : u_MO mUmp_isNameLetter 1 := ⟨by decide, rfl, by decide, by decide, ⟨by decide, by decide⟩, by decide +kernel, uw_mem 426 rfl rfl, uw_mem 53 rfl rfl⟩
set_option maxRecDepth 20000 in
theorem mo_Mod_in : u_MO mMod_in 3 := ⟨by decide, rfl, by decide, by decide, ⟨by decide, by decide⟩, by decide +kernel, uw_mem 849 rfl rfl, uw_mem 63 rfl rfl⟩
set_option maxRecDepth 20000 in
theorem mo_Mod_record : u_MO mMod_record 0 := ⟨by decide, rfl, by decide, by decide, ⟨by decide, by decide⟩, by decide +kernel, uw_mem 853 rfl rfl, uw_mem 63 rfl rfl⟩
set_option maxRecDepth 20000 in
theorem mo_Mod_box : u_MO mMod_box 2 := ⟨by decide, rfl, by decide, by decide, ⟨by decide, by decide⟩, by decide +kernel, uw_mem 885 rfl rfl, uw_mem 63 rfl rfl⟩
set_option maxRecDepth 20000 in
theorem mo_Mod_boxes : u_MO mMod_boxes 3 := ⟨by decide, rfl, by decide, by decide, ⟨by decide, by decide⟩, by decide +kernel, uw_mem 889 rfl rfl, uw_mem 63 rfl rfl⟩
set_option maxRecDepth 20000 in
theorem mo_Mod_fails : u_MO mMod_fails 3 := ⟨by decide, rfl, by decide, by decide, ⟨by decide, by decide⟩, by decide +kernel, uw_mem 881 rfl rfl, uw_mem 63 rfl rfl⟩
set_option maxRecDepth 20000 in
theorem mo_Mod_steps : u_MO mMod_steps 2 := ⟨by decide, rfl, by decide, by decide, ⟨by decide, by decide⟩, by decide +kernel, uw_mem 893 rfl rfl, uw_mem 63 rfl rfl⟩
set_option maxRecDepth 20000 in
theorem mo_Mod_rankOf : u_MO mMod_rankOf 3 := ⟨by decide, rfl, by decide, by decide, ⟨by decide, by decide⟩, by decide +kernel, uw_mem 912 rfl rfl, uw_mem 63 rfl rfl⟩
set_option maxRecDepth 20000 in
theorem mo_Mod_takesText : u_MO mMod_takesText 0 := ⟨by decide, rfl, by decide, by decide, ⟨by decide, by decide⟩, by decide +kernel, uw_mem 865 rfl rfl, uw_mem 63 rfl rfl⟩
set_option maxRecDepth 20000 in
theorem mo_Mod_forgets : u_MO mMod_forgets 0 := ⟨by decide, rfl, by decide, by decide, ⟨by decide, by decide⟩, by decide +kernel, uw_mem 920 rfl rfl, uw_mem 63 rfl rfl⟩
set_option maxRecDepth 20000 in
theorem mo_Mod_codes : u_MO mMod_codes 2 := ⟨by decide, rfl, by decide, by decide, ⟨by decide, by decide⟩, by decide +kernel, uw_mem 932 rfl rfl, uw_mem 63 rfl rfl⟩
set_option maxRecDepth 20000 in
theorem mo_Mod_isWord : u_MO mMod_isWord 3 := ⟨by decide, rfl, by decide, by decide, ⟨by decide, by decide⟩, by decide +kernel, uw_mem 948 rfl rfl, uw_mem 63 rfl rfl⟩
set_option maxRecDepth 20000 in
theorem mo_Mod_bitsOf : u_MO mMod_bitsOf 1 := ⟨by decide, rfl, by decide, by decide, ⟨by decide, by decide⟩, by decide +kernel, uw_mem 959 rfl rfl, uw_mem 63 rfl rfl⟩
set_option maxRecDepth 20000 in
theorem mo_Mod_rules : u_MO mMod_rules 0 := ⟨by decide, rfl, by decide, by decide, ⟨by decide, by decide⟩, by decide +kernel, uw_mem 857 rfl rfl, uw_mem 63 rfl rfl⟩
set_option maxRecDepth 20000 in
theorem mo_Mod_type : u_MO mMod_type 1 := ⟨by decide, rfl, by decide, by decide, ⟨by decide, by decide⟩, by decide +kernel, uw_mem 979 rfl rfl, uw_mem 63 rfl rfl⟩
set_option maxRecDepth 20000 in
theorem mo_Mod_clearText : u_MO mMod_clearText 0 := ⟨by decide, rfl, by decide, by decide, ⟨by decide, by decide⟩, by decide +kernel, uw_mem 983 rfl rfl, uw_mem 63 rfl rfl⟩
set_option maxRecDepth 20000 in
theorem mo_Mod_undo : u_MO mMod_undo 0 := ⟨by decide, rfl, by decide, by decide, ⟨by decide, by decide⟩, by decide +kernel, uw_mem 991 rfl rfl, uw_mem 63 rfl rfl⟩
set_option maxRecDepth 20000 in
theorem mo_Mod_keep : u_MO mMod_keep 0 := ⟨by decide, rfl, by decide, by decide, ⟨by decide, by decide⟩, by decide +kernel, uw_mem 995 rfl rfl, uw_mem 63 rfl rfl⟩
set_option maxRecDepth 20000 in
theorem mo_Int_bitCount : u_MO mInt_bitCount 1 := ⟨by decide, rfl, by decide, by decide, ⟨by decide, by decide⟩, by decide +kernel, uw_mem 558 rfl rfl, uw_mem 64 rfl rfl⟩
set_option maxRecDepth 20000 in
theorem mo_Cod_clear : u_MO mCod_clear 0 := ⟨by decide, rfl, by decide, by decide, ⟨by decide, by decide⟩, by decide +kernel, uw_mem 502 rfl rfl, uw_mem 62 rfl rfl⟩
set_option maxRecDepth 20000 in
theorem mo_Cod_bitsOfRow : u_MO mCod_bitsOfRow 1 := ⟨by decide, rfl, by decide, by decide, ⟨by decide, by decide⟩, by decide +kernel, uw_mem 579 rfl rfl, uw_mem 62 rfl rfl⟩
set_option maxRecDepth 20000 in
theorem mo_Frl_init : u_MO mFrl_init 1 := ⟨by decide, rfl, by decide, by decide, ⟨by decide, by decide⟩, by decide +kernel, uw_mem 232 rfl rfl, uw_mem 61 rfl rfl⟩
set_option maxRecDepth 20000 in
theorem mo_Frl_meet : u_MO mFrl_meet 1 := ⟨by decide, rfl, by decide, by decide, ⟨by decide, by decide⟩, by decide +kernel, uw_mem 527 rfl rfl, uw_mem 61 rfl rfl⟩
set_option maxRecDepth 20000 in
theorem mo_Kno_forget : u_MO mKno_forget 0 := ⟨by decide, rfl, by decide, by decide, ⟨by decide, by decide⟩, by decide +kernel, uw_mem 600 rfl rfl, uw_mem 60 rfl rfl⟩
set_option maxRecDepth 20000 in
theorem mo_Kno_valueOf : u_MO mKno_valueOf 2 := ⟨by decide, rfl, by decide, by decide, ⟨by decide, by decide⟩, by decide +kernel, uw_mem 554 rfl rfl, uw_mem 60 rfl rfl⟩
set_option maxRecDepth 20000 in
theorem mo_Pag_clear : u_MO mPag_clear 0 := ⟨by decide, rfl, by decide, by decide, ⟨by decide, by decide⟩, by decide +kernel, uw_mem 393 rfl rfl, uw_mem 57 rfl rfl⟩
set_option maxRecDepth 20000 in
theorem mo_Pag_addBox : u_MO mPag_addBox 3 := ⟨by decide, rfl, by decide, by decide, ⟨by decide, by decide⟩, by decide +kernel, uw_mem 451 rfl rfl, uw_mem 57 rfl rfl⟩
set_option maxRecDepth 20000 in
theorem mo_Pag_addWord : u_MO mPag_addWord 2 := ⟨by decide, rfl, by decide, by decide, ⟨by decide, by decide⟩, by decide +kernel, uw_mem 466 rfl rfl, uw_mem 57 rfl rfl⟩
set_option maxRecDepth 20000 in
theorem mo_Pag_lengthenWord : u_MO mPag_lengthenWord 0 := ⟨by decide, rfl, by decide, by decide, ⟨by decide, by decide⟩, by decide +kernel, uw_mem 470 rfl rfl, uw_mem 57 rfl rfl⟩
set_option maxRecDepth 20000 in
theorem mo_Pag_keyOfNote : u_MO mPag_keyOfNote 2 := ⟨by decide, rfl, by decide, by decide, ⟨by decide, by decide⟩, by decide +kernel, uw_mem 540 rfl rfl, uw_mem 57 rfl rfl⟩
set_option maxRecDepth 20000 in
theorem mo_Pag_boxInside : u_MO mPag_boxInside 3 := ⟨by decide, rfl, by decide, by decide, ⟨by decide, by decide⟩, by decide +kernel, uw_mem 693 rfl rfl, uw_mem 57 rfl rfl⟩
set_option maxRecDepth 20000 in
theorem mo_Pth_partCount : u_MO mPth_partCount 0 := ⟨by decide, rfl, by decide, by decide, ⟨by decide, by decide⟩, by decide +kernel, uw_mem 707 rfl rfl, uw_mem 58 rfl rfl⟩
set_option maxRecDepth 20000 in
theorem mo_Pth_takes : u_MO mPth_takes 1 := ⟨by decide, rfl, by decide, by decide, ⟨by decide, by decide⟩, by decide +kernel, uw_mem 682 rfl rfl, uw_mem 58 rfl rfl⟩
set_option maxRecDepth 20000 in
theorem mo_Rea_expect : u_MO mRea_expect 3 := ⟨by decide, rfl, by decide, by decide, ⟨by decide, by decide⟩, by decide +kernel, uw_mem 415 rfl rfl, uw_mem 56 rfl rfl⟩
set_option maxRecDepth 20000 in
theorem mo_Rea_takeKey : u_MO mRea_takeKey 2 := ⟨by decide, rfl, by decide, by decide, ⟨by decide, by decide⟩, by decide +kernel, uw_mem 457 rfl rfl, uw_mem 56 rfl rfl⟩
set_option maxRecDepth 20000 in
theorem mo_Rea_latestName : u_MO mRea_latestName 0 := ⟨by decide, rfl, by decide, by decide, ⟨by decide, by decide⟩, by decide +kernel, uw_mem 434 rfl rfl, uw_mem 56 rfl rfl⟩
set_option maxRecDepth 20000 in
theorem mo_Rea_close : u_MO mRea_close 1 := ⟨by decide, rfl, by decide, by decide, ⟨by decide, by decide⟩, by decide +kernel, uw_mem 443 rfl rfl, uw_mem 56 rfl rfl⟩
set_option maxRecDepth 20000 in
theorem mo_Row_init : u_MO mRow_init 1 := ⟨by decide, rfl, by decide, by decide, ⟨by decide, by decide⟩, by decide +kernel, uw_mem 77 rfl rfl, uw_mem 54 rfl rfl⟩
set_option maxRecDepth 20000 in
theorem mo_Row_become : u_MO mRow_become 1 := ⟨by decide, rfl, by decide, by decide, ⟨by decide, by decide⟩, by decide +kernel, uw_mem 349 rfl rfl, uw_mem 54 rfl rfl⟩
set_option maxRecDepth 20000 in
theorem mo_Sta_ends : u_MO mSta_ends 2 := ⟨by decide, rfl, by decide, by decide, ⟨by decide, by decide⟩, by decide +kernel, uw_mem 333 rfl rfl, uw_mem 59 rfl rfl⟩
set_option maxRecDepth 20000 in
theorem mo_Sta_setEnds : u_MO mSta_setEnds 3 := ⟨by decide, rfl, by decide, by decide, ⟨by decide, by decide⟩, by decide +kernel, uw_mem 369 rfl rfl, uw_mem 59 rfl rfl⟩
set_option maxRecDepth 20000 in
theorem mo_Sta_ruleCount : u_MO mSta_ruleCount 0 := ⟨by decide, rfl, by decide, by decide, ⟨by decide, by decide⟩, by decide +kernel, uw_mem 377 rfl rfl, uw_mem 59 rfl rfl⟩
set_option maxRecDepth 20000 in
theorem mo_Sta_letterCount : u_MO mSta_letterCount 0 := ⟨by decide, rfl, by decide, by decide, ⟨by decide, by decide⟩, by decide +kernel, uw_mem 730 rfl rfl, uw_mem 59 rfl rfl⟩
set_option maxRecDepth 20000 in
theorem mo_Sta_stepCount : u_MO mSta_stepCount 1 := ⟨by decide, rfl, by decide, by decide, ⟨by decide, by decide⟩, by decide +kernel, uw_mem 735 rfl rfl, uw_mem 59 rfl rfl⟩
set_option maxRecDepth 20000 in
theorem mo_Ump_type : u_MO mUmp_type 1 := ⟨by decide, rfl, by decide, by decide, ⟨by decide, by decide⟩, by decide +kernel, uw_mem 625 rfl rfl, uw_mem 53 rfl rfl⟩
set_option maxRecDepth 20000 in
theorem mo_Ump_clearText : u_MO mUmp_clearText 0 := ⟨by decide, rfl, by decide, by decide, ⟨by decide, by decide⟩, by decide +kernel, uw_mem 631 rfl rfl, uw_mem 53 rfl rfl⟩
set_option maxRecDepth 20000 in
theorem mo_Ump_charAt : u_MO mUmp_charAt 2 := ⟨by decide, rfl, by decide, by decide, ⟨by decide, by decide⟩, by decide +kernel, uw_mem 652 rfl rfl, uw_mem 53 rfl rfl⟩
set_option maxRecDepth 20000 in
theorem mo_Ump_code : u_MO mUmp_code 3 := ⟨by decide, rfl, by decide, by decide, ⟨by decide, by decide⟩, by decide +kernel, uw_mem 657 rfl rfl, uw_mem 53 rfl rfl⟩
set_option maxRecDepth 20000 in
theorem mo_Ump_known : u_MO mUmp_known 2 := ⟨by decide, rfl, by decide, by decide, ⟨by decide, by decide⟩, by decide +kernel, uw_mem 711 rfl rfl, uw_mem 53 rfl rfl⟩
set_option maxRecDepth 20000 in
theorem mo_Mod_init : u_MO mMod_init 0 := ⟨by decide, rfl, by decide, by decide, ⟨by decide, by decide⟩, by decide +kernel, uw_mem 740 rfl rfl, uw_mem 63 rfl rfl⟩
set_option maxRecDepth 20000 in
theorem mo_Mod_no : u_MO mMod_no 1 := ⟨by decide, rfl, by decide, by decide, ⟨by decide, by decide⟩, by decide +kernel, uw_mem 971 rfl rfl, uw_mem 63 rfl rfl⟩
set_option maxRecDepth 20000 in
theorem mo_Mod_noName : u_MO mMod_noName 1 := ⟨by decide, rfl, by decide, by decide, ⟨by decide, by decide⟩, by decide +kernel, uw_mem 846 rfl rfl, uw_mem 63 rfl rfl⟩
set_option maxRecDepth 20000 in
theorem mo_Mod_isAt : u_MO mMod_isAt 3 := ⟨by decide, rfl, by decide, by decide, ⟨by decide, by decide⟩, by decide +kernel, uw_mem 873 rfl rfl, uw_mem 63 rfl rfl⟩
set_option maxRecDepth 20000 in
theorem mo_Mod_implies : u_MO mMod_implies 2 := ⟨by decide, rfl, by decide, by decide, ⟨by decide, by decide⟩, by decide +kernel, uw_mem 901 rfl rfl, uw_mem 63 rfl rfl⟩
set_option maxRecDepth 20000 in
theorem mo_Mod_codesName : u_MO mMod_codesName 1 := ⟨by decide, rfl, by decide, by decide, ⟨by decide, by decide⟩, by decide +kernel, uw_mem 936 rfl rfl, uw_mem 63 rfl rfl⟩
set_option maxRecDepth 20000 in
theorem mo_Mod_codesNotes : u_MO mMod_codesNotes 1 := ⟨by decide, rfl, by decide, by decide, ⟨by decide, by decide⟩, by decide +kernel, uw_mem 940 rfl rfl, uw_mem 63 rfl rfl⟩
set_option maxRecDepth 20000 in
theorem mo_Mod_codesWord : u_MO mMod_codesWord 2 := ⟨by decide, rfl, by decide, by decide, ⟨by decide, by decide⟩, by decide +kernel, uw_mem 944 rfl rfl, uw_mem 63 rfl rfl⟩
set_option maxRecDepth 20000 in
theorem mo_Mod_rowBits : u_MO mMod_rowBits 1 := ⟨by decide, rfl, by decide, by decide, ⟨by decide, by decide⟩, by decide +kernel, uw_mem 956 rfl rfl, uw_mem 63 rfl rfl⟩
set_option maxRecDepth 20000 in
theorem mo_Mod_unpackLast : u_MO mMod_unpackLast 0 := ⟨by decide, rfl, by decide, by decide, ⟨by decide, by decide⟩, by decide +kernel, uw_mem 963 rfl rfl, uw_mem 63 rfl rfl⟩
set_option maxRecDepth 20000 in
theorem mo_Mod_restore : u_MO mMod_restore 0 := ⟨by decide, rfl, by decide, by decide, ⟨by decide, by decide⟩, by decide +kernel, uw_mem 999 rfl rfl, uw_mem 63 rfl rfl⟩
set_option maxRecDepth 20000 in
theorem mo_Mod_partsOfText : u_MO mMod_partsOfText 0 := ⟨by decide, rfl, by decide, by decide, ⟨by decide, by decide⟩, by decide +kernel, uw_mem 1023 rfl rfl, uw_mem 63 rfl rfl⟩
set_option maxRecDepth 20000 in
theorem mo_Mod_inner : u_MO mMod_inner 3 := ⟨by decide, rfl, by decide, by decide, ⟨by decide, by decide⟩, by decide +kernel, uw_mem 1027 rfl rfl, uw_mem 63 rfl rfl⟩
set_option maxRecDepth 20000 in
theorem mo_Cod_init : u_MO mCod_init 0 := ⟨by decide, rfl, by decide, by decide, ⟨by decide, by decide⟩, by decide +kernel, uw_mem 265 rfl rfl, uw_mem 62 rfl rfl⟩
set_option maxRecDepth 20000 in
theorem mo_Cod_bitsOfAll : u_MO mCod_bitsOfAll 0 := ⟨by decide, rfl, by decide, by decide, ⟨by decide, by decide⟩, by decide +kernel, uw_mem 575 rfl rfl, uw_mem 62 rfl rfl⟩
set_option maxRecDepth 20000 in
theorem mo_Kno_init : u_MO mKno_init 0 := ⟨by decide, rfl, by decide, by decide, ⟨by decide, by decide⟩, by decide +kernel, uw_mem 225 rfl rfl, uw_mem 60 rfl rfl⟩
set_option maxRecDepth 20000 in
theorem mo_Kno_takeName : u_MO mKno_takeName 3 := ⟨by decide, rfl, by decide, by decide, ⟨by decide, by decide⟩, by decide +kernel, uw_mem 509 rfl rfl, uw_mem 60 rfl rfl⟩
set_option maxRecDepth 20000 in
theorem mo_Kno_takeValue : u_MO mKno_takeValue 4 := ⟨by decide, rfl, by decide, by decide, ⟨by decide, by decide⟩, by decide +kernel, uw_mem 550 rfl rfl, uw_mem 60 rfl rfl⟩
set_option maxRecDepth 20000 in
theorem mo_Kno_takeWord : u_MO mKno_takeWord 3 := ⟨by decide, rfl, by decide, by decide, ⟨by decide, by decide⟩, by decide +kernel, uw_mem 569 rfl rfl, uw_mem 60 rfl rfl⟩
set_option maxRecDepth 20000 in
theorem mo_Pag_init : u_MO mPag_init 0 := ⟨by decide, rfl, by decide, by decide, ⟨by decide, by decide⟩, by decide +kernel, uw_mem 100 rfl rfl, uw_mem 57 rfl rfl⟩
set_option maxRecDepth 20000 in
theorem mo_Pag_become : u_MO mPag_become 1 := ⟨by decide, rfl, by decide, by decide, ⟨by decide, by decide⟩, by decide +kernel, uw_mem 364 rfl rfl, uw_mem 57 rfl rfl⟩
set_option maxRecDepth 20000 in
theorem mo_Pag_valueOfKey : u_MO mPag_valueOfKey 2 := ⟨by decide, rfl, by decide, by decide, ⟨by decide, by decide⟩, by decide +kernel, uw_mem 546 rfl rfl, uw_mem 57 rfl rfl⟩
set_option maxRecDepth 20000 in
theorem mo_Pag_keySet : u_MO mPag_keySet 1 := ⟨by decide, rfl, by decide, by decide, ⟨by decide, by decide⟩, by decide +kernel, uw_mem 536 rfl rfl, uw_mem 57 rfl rfl⟩
set_option maxRecDepth 20000 in
theorem mo_Pag_orderOfKeys : u_MO mPag_orderOfKeys 2 := ⟨by decide, rfl, by decide, by decide, ⟨by decide, by decide⟩, by decide +kernel, uw_mem 565 rfl rfl, uw_mem 57 rfl rfl⟩
set_option maxRecDepth 20000 in
theorem mo_Pth_init : u_MO mPth_init 0 := ⟨by decide, rfl, by decide, by decide, ⟨by decide, by decide⟩, by decide +kernel, uw_mem 180 rfl rfl, uw_mem 58 rfl rfl⟩
set_option maxRecDepth 20000 in
theorem mo_Pth_readFault : u_MO mPth_readFault 1 := ⟨by decide, rfl, by decide, by decide, ⟨by decide, by decide⟩, by decide +kernel, uw_mem 675 rfl rfl, uw_mem 58 rfl rfl⟩
set_option maxRecDepth 20000 in
theorem mo_Pth_boxIn : u_MO mPth_boxIn 1 := ⟨by decide, rfl, by decide, by decide, ⟨by decide, by decide⟩, by decide +kernel, uw_mem 689 rfl rfl, uw_mem 58 rfl rfl⟩
set_option maxRecDepth 20000 in
theorem mo_Rea_openBox : u_MO mRea_openBox 3 := ⟨by decide, rfl, by decide, by decide, ⟨by decide, by decide⟩, by decide +kernel, uw_mem 430 rfl rfl, uw_mem 56 rfl rfl⟩
set_option maxRecDepth 20000 in
theorem mo_Rea_takeInBox : u_MO mRea_takeInBox 2 := ⟨by decide, rfl, by decide, by decide, ⟨by decide, by decide⟩, by decide +kernel, uw_mem 462 rfl rfl, uw_mem 56 rfl rfl⟩
set_option maxRecDepth 20000 in
theorem mo_Rea_takeClosingEnd : u_MO mRea_takeClosingEnd 2 := ⟨by decide, rfl, by decide, by decide, ⟨by decide, by decide⟩, by decide +kernel, uw_mem 485 rfl rfl, uw_mem 56 rfl rfl⟩
set_option maxRecDepth 20000 in
theorem mo_Rea_isEndedByClosing : u_MO mRea_isEndedByClosing 2 := ⟨by decide, rfl, by decide, by decide, ⟨by decide, by decide⟩, by decide +kernel, uw_mem 481 rfl rfl, uw_mem 56 rfl rfl⟩
set_option maxRecDepth 20000 in
theorem mo_Ump_latest : u_MO mUmp_latest 2 := ⟨by decide, rfl, by decide, by decide, ⟨by decide, by decide⟩, by decide +kernel, uw_mem 721 rfl rfl, uw_mem 53 rfl rfl⟩
set_option maxRecDepth 20000 in
theorem mo_Mod_readNotes : u_MO mMod_readNotes 2 := ⟨by decide, rfl, by decide, by decide, ⟨by decide, by decide⟩, by decide +kernel, uw_mem 909 rfl rfl, uw_mem 63 rfl rfl⟩
set_option maxRecDepth 20000 in
theorem mo_Mod_closes : u_MO mMod_closes 1 := ⟨by decide, rfl, by decide, by decide, ⟨by decide, by decide⟩, by decide +kernel, uw_mem 897 rfl rfl, uw_mem 63 rfl rfl⟩
set_option maxRecDepth 20000 in
theorem mo_Mod_readWord : u_MO mMod_readWord 1 := ⟨by decide, rfl, by decide, by decide, ⟨by decide, by decide⟩, by decide +kernel, uw_mem 877 rfl rfl, uw_mem 63 rfl rfl⟩
set_option maxRecDepth 20000 in
theorem mo_Mod_packs : u_MO mMod_packs 0 := ⟨by decide, rfl, by decide, by decide, ⟨by decide, by decide⟩, by decide +kernel, uw_mem 928 rfl rfl, uw_mem 63 rfl rfl⟩
set_option maxRecDepth 20000 in
theorem mo_Mod_pageBits : u_MO mMod_pageBits 0 := ⟨by decide, rfl, by decide, by decide, ⟨by decide, by decide⟩, by decide +kernel, uw_mem 952 rfl rfl, uw_mem 63 rfl rfl⟩
set_option maxRecDepth 20000 in
theorem mo_Mod_rule : u_MO mMod_rule 3 := ⟨by decide, rfl, by decide, by decide, ⟨by decide, by decide⟩, by decide +kernel, uw_mem 843 rfl rfl, uw_mem 63 rfl rfl⟩
set_option maxRecDepth 20000 in
theorem mo_Mod_charAt : u_MO mMod_charAt 2 := ⟨by decide, rfl, by decide, by decide, ⟨by decide, by decide⟩, by decide +kernel, uw_mem 1003 rfl rfl, uw_mem 63 rfl rfl⟩
set_option maxRecDepth 20000 in
theorem mo_Kno_takeNotes : u_MO mKno_takeNotes 3 := ⟨by decide, rfl, by decide, by decide, ⟨by decide, by decide⟩, by decide +kernel, uw_mem 532 rfl rfl, uw_mem 60 rfl rfl⟩
set_option maxRecDepth 20000 in
theorem mo_Rea_init : u_MO mRea_init 0 := ⟨by decide, rfl, by decide, by decide, ⟨by decide, by decide⟩, by decide +kernel, uw_mem 94 rfl rfl, uw_mem 56 rfl rfl⟩
set_option maxRecDepth 20000 in
theorem mo_Rea_takeBehindMark : u_MO mRea_takeBehindMark 3 := ⟨by decide, rfl, by decide, by decide, ⟨by decide, by decide⟩, by decide +kernel, uw_mem 423 rfl rfl, uw_mem 56 rfl rfl⟩
set_option maxRecDepth 20000 in
theorem mo_Rea_takeClosingName : u_MO mRea_takeClosingName 3 := ⟨by decide, rfl, by decide, by decide, ⟨by decide, by decide⟩, by decide +kernel, uw_mem 477 rfl rfl, uw_mem 56 rfl rfl⟩
set_option maxRecDepth 20000 in
theorem mo_Sta_init : u_MO mSta_init 0 := ⟨by decide, rfl, by decide, by decide, ⟨by decide, by decide⟩, by decide +kernel, uw_mem 198 rfl rfl, uw_mem 59 rfl rfl⟩
set_option maxRecDepth 20000 in
theorem mo_Sta_addPage : u_MO mSta_addPage 1 := ⟨by decide, rfl, by decide, by decide, ⟨by decide, by decide⟩, by decide +kernel, uw_mem 360 rfl rfl, uw_mem 59 rfl rfl⟩
set_option maxRecDepth 20000 in
theorem mo_Ump_bits : u_MO mUmp_bits 2 := ⟨by decide, rfl, by decide, by decide, ⟨by decide, by decide⟩, by decide +kernel, uw_mem 662 rfl rfl, uw_mem 53 rfl rfl⟩
set_option maxRecDepth 20000 in
theorem mo_Ump_toldOfBox : u_MO mUmp_toldOfBox 3 := ⟨by decide, rfl, by decide, by decide, ⟨by decide, by decide⟩, by decide +kernel, uw_mem 697 rfl rfl, uw_mem 53 rfl rfl⟩
set_option maxRecDepth 20000 in
theorem mo_Ump_bitsOfAllPages : u_MO mUmp_bitsOfAllPages 0 := ⟨by decide, rfl, by decide, by decide, ⟨by decide, by decide⟩, by decide +kernel, uw_mem 617 rfl rfl, uw_mem 53 rfl rfl⟩
set_option maxRecDepth 20000 in
theorem mo_Mod_opens : u_MO mMod_opens 1 := ⟨by decide, rfl, by decide, by decide, ⟨by decide, by decide⟩, by decide +kernel, uw_mem 905 rfl rfl, uw_mem 63 rfl rfl⟩
set_option maxRecDepth 20000 in
theorem mo_Kno_take : u_MO mKno_take 2 := ⟨by decide, rfl, by decide, by decide, ⟨by decide, by decide⟩, by decide +kernel, uw_mem 498 rfl rfl, uw_mem 60 rfl rfl⟩
set_option maxRecDepth 20000 in
theorem mo_Rea_take : u_MO mRea_take 3 := ⟨by decide, rfl, by decide, by decide, ⟨by decide, by decide⟩, by decide +kernel, uw_mem 411 rfl rfl, uw_mem 56 rfl rfl⟩
set_option maxRecDepth 20000 in
theorem mo_Sta_become : u_MO mSta_become 1 := ⟨by decide, rfl, by decide, by decide, ⟨by decide, by decide⟩, by decide +kernel, uw_mem 345 rfl rfl, uw_mem 59 rfl rfl⟩
set_option maxRecDepth 20000 in
theorem mo_Ump_init : u_MO mUmp_init 0 := ⟨by decide, rfl, by decide, by decide, ⟨by decide, by decide⟩, by decide +kernel, uw_mem 69 rfl rfl, uw_mem 53 rfl rfl⟩
set_option maxRecDepth 20000 in
theorem mo_Ump_path : u_MO mUmp_path 2 := ⟨by decide, rfl, by decide, by decide, ⟨by decide, by decide⟩, by decide +kernel, uw_mem 671 rfl rfl, uw_mem 53 rfl rfl⟩
set_option maxRecDepth 20000 in
theorem mo_Ump_count : u_MO mUmp_count 1 := ⟨by decide, rfl, by decide, by decide, ⟨by decide, by decide⟩, by decide +kernel, uw_mem 726 rfl rfl, uw_mem 53 rfl rfl⟩
set_option maxRecDepth 20000 in
theorem mo_Mod_isPage : u_MO mMod_isPage 0 := ⟨by decide, rfl, by decide, by decide, ⟨by decide, by decide⟩, by decide +kernel, uw_mem 869 rfl rfl, uw_mem 63 rfl rfl⟩
set_option maxRecDepth 20000 in
theorem mo_Rea_read : u_MO mRea_read 2 := ⟨by decide, rfl, by decide, by decide, ⟨by decide, by decide⟩, by decide +kernel, uw_mem 389 rfl rfl, uw_mem 56 rfl rfl⟩
set_option maxRecDepth 20000 in
theorem mo_Ump_keep : u_MO mUmp_keep 0 := ⟨by decide, rfl, by decide, by decide, ⟨by decide, by decide⟩, by decide +kernel, uw_mem 644 rfl rfl, uw_mem 53 rfl rfl⟩
set_option maxRecDepth 20000 in
theorem mo_Ump_recordState : u_MO mUmp_recordState 0 := ⟨by decide, rfl, by decide, by decide, ⟨by decide, by decide⟩, by decide +kernel, uw_mem 341 rfl rfl, uw_mem 53 rfl rfl⟩
set_option maxRecDepth 20000 in
theorem mo_Ump_packAnew : u_MO mUmp_packAnew 0 := ⟨by decide, rfl, by decide, by decide, ⟨by decide, by decide⟩, by decide +kernel, uw_mem 596 rfl rfl, uw_mem 53 rfl rfl⟩
set_option maxRecDepth 20000 in
theorem mo_Mod_takesPage : u_MO mMod_takesPage 1 := ⟨by decide, rfl, by decide, by decide, ⟨by decide, by decide⟩, by decide +kernel, uw_mem 924 rfl rfl, uw_mem 63 rfl rfl⟩
set_option maxRecDepth 20000 in
theorem mo_Mod_fault : u_MO mMod_fault 1 := ⟨by decide, rfl, by decide, by decide, ⟨by decide, by decide⟩, by decide +kernel, uw_mem 987 rfl rfl, uw_mem 63 rfl rfl⟩
set_option maxRecDepth 20000 in
theorem mo_Ump_rule : u_MO mUmp_rule 3 := ⟨by decide, rfl, by decide, by decide, ⟨by decide, by decide⟩, by decide +kernel, uw_mem 326 rfl rfl, uw_mem 53 rfl rfl⟩
set_option maxRecDepth 20000 in
theorem mo_Ump_pack : u_MO mUmp_pack 0 := ⟨by decide, rfl, by decide, by decide, ⟨by decide, by decide⟩, by decide +kernel, uw_mem 385 rfl rfl, uw_mem 53 rfl rfl⟩
set_option maxRecDepth 20000 in
theorem mo_Ump_unpackLast : u_MO mUmp_unpackLast 0 := ⟨by decide, rfl, by decide, by decide, ⟨by decide, by decide⟩, by decide +kernel, uw_mem 592 rfl rfl, uw_mem 53 rfl rfl⟩
set_option maxRecDepth 20000 in
theorem mo_Ump_first : u_MO mUmp_first 1 := ⟨by decide, rfl, by decide, by decide, ⟨by decide, by decide⟩, by decide +kernel, uw_mem 609 rfl rfl, uw_mem 53 rfl rfl⟩
set_option maxRecDepth 20000 in
theorem mo_Ump_fault : u_MO mUmp_fault 1 := ⟨by decide, rfl, by decide, by decide, ⟨by decide, by decide⟩, by decide +kernel, uw_mem 636 rfl rfl, uw_mem 53 rfl rfl⟩
set_option maxRecDepth 20000 in
theorem mo_Ump_undo : u_MO mUmp_undo 0 := ⟨by decide, rfl, by decide, by decide, ⟨by decide, by decide⟩, by decide +kernel, uw_mem 640 rfl rfl, uw_mem 53 rfl rfl⟩
set_option maxRecDepth 20000 in
theorem mo_Ump_restore : u_MO mUmp_restore 0 := ⟨by decide, rfl, by decide, by decide, ⟨by decide, by decide⟩, by decide +kernel, uw_mem 648 rfl rfl, uw_mem 53 rfl rfl⟩
set_option maxRecDepth 20000 in
theorem mo_Ump_wouldTake : u_MO mUmp_wouldTake 1 := ⟨by decide, rfl, by decide, by decide, ⟨by decide, by decide⟩, by decide +kernel, uw_mem 667 rfl rfl, uw_mem 53 rfl rfl⟩
set_option maxRecDepth 20000 in
theorem mo_Mod_packsUpTo : u_MO mMod_packsUpTo 1 := ⟨by decide, rfl, by decide, by decide, ⟨by decide, by decide⟩, by decide +kernel, uw_mem 916 rfl rfl, uw_mem 63 rfl rfl⟩
set_option maxRecDepth 20000 in
theorem mo_Mod_allBits : u_MO mMod_allBits 0 := ⟨by decide, rfl, by decide, by decide, ⟨by decide, by decide⟩, by decide +kernel, uw_mem 975 rfl rfl, uw_mem 63 rfl rfl⟩
set_option maxRecDepth 20000 in
theorem mo_Mod_path : u_MO mMod_path 2 := ⟨by decide, rfl, by decide, by decide, ⟨by decide, by decide⟩, by decide +kernel, uw_mem 1019 rfl rfl, uw_mem 63 rfl rfl⟩
set_option maxRecDepth 20000 in
theorem mo_Mod_overPages : u_MO mMod_overPages 1 := ⟨by decide, rfl, by decide, by decide, ⟨by decide, by decide⟩, by decide +kernel, uw_mem 1043 rfl rfl, uw_mem 63 rfl rfl⟩
set_option maxRecDepth 20000 in
theorem mo_Mod_pack : u_MO mMod_pack 0 := ⟨by decide, rfl, by decide, by decide, ⟨by decide, by decide⟩, by decide +kernel, uw_mem 861 rfl rfl, uw_mem 63 rfl rfl⟩
set_option maxRecDepth 20000 in
theorem mo_Mod_first : u_MO mMod_first 1 := ⟨by decide, rfl, by decide, by decide, ⟨by decide, by decide⟩, by decide +kernel, uw_mem 967 rfl rfl, uw_mem 63 rfl rfl⟩
set_option maxRecDepth 20000 in
theorem mo_Mod_code : u_MO mMod_code 3 := ⟨by decide, rfl, by decide, by decide, ⟨by decide, by decide⟩, by decide +kernel, uw_mem 1007 rfl rfl, uw_mem 63 rfl rfl⟩
set_option maxRecDepth 20000 in
theorem mo_Mod_bits : u_MO mMod_bits 2 := ⟨by decide, rfl, by decide, by decide, ⟨by decide, by decide⟩, by decide +kernel, uw_mem 1011 rfl rfl, uw_mem 63 rfl rfl⟩
set_option maxRecDepth 20000 in
theorem mo_Mod_wouldTake : u_MO mMod_wouldTake 1 := ⟨by decide, rfl, by decide, by decide, ⟨by decide, by decide⟩, by decide +kernel, uw_mem 1015 rfl rfl, uw_mem 63 rfl rfl⟩
set_option maxRecDepth 20000 in
theorem mo_Mod_known : u_MO mMod_known 2 := ⟨by decide, rfl, by decide, by decide, ⟨by decide, by decide⟩, by decide +kernel, uw_mem 1031 rfl rfl, uw_mem 63 rfl rfl⟩
set_option maxRecDepth 20000 in
theorem mo_Mod_latest : u_MO mMod_latest 2 := ⟨by decide, rfl, by decide, by decide, ⟨by decide, by decide⟩, by decide +kernel, uw_mem 1035 rfl rfl, uw_mem 63 rfl rfl⟩
set_option maxRecDepth 20000 in
theorem mo_Mod_count : u_MO mMod_count 1 := ⟨by decide, rfl, by decide, by decide, ⟨by decide, by decide⟩, by decide +kernel, uw_mem 1039 rfl rfl, uw_mem 63 rfl rfl⟩
set_option maxRecDepth 20000 in
theorem kV_Cod_29 : u_CV "UnmarkedPages$Codes" 29 6 mRow_clear 0 := ⟨mo_Row_clear, uw_mem 503 rfl rfl, uw_mem 395 rfl rfl, uw_mem 396 rfl rfl, _, rfl, rfl⟩
set_option maxRecDepth 20000 in
theorem kV_Cod_32 : u_CV "UnmarkedPages$Codes" 32 6 mRow_size 0 := ⟨mo_Row_size, uw_mem 580 rfl rfl, uw_mem 400 rfl rfl, uw_mem 401 rfl rfl, _, rfl, rfl⟩
set_option maxRecDepth 20000 in
theorem kV_Cod_36 : u_CV "UnmarkedPages$Codes" 36 0 mCod_rowAt 1 := ⟨mo_Cod_rowAt, uw_mem 581 rfl rfl, uw_mem 582 rfl rfl, uw_mem 583 rfl rfl, _, rfl, rfl⟩
set_option maxRecDepth 20000 in
theorem kV_Cod_40 : u_CV "UnmarkedPages$Codes" 40 6 mRow_at 1 := ⟨mo_Row_at, uw_mem 585 rfl rfl, uw_mem 335 rfl rfl, uw_mem 336 rfl rfl, _, rfl, rfl⟩
set_option maxRecDepth 20000 in
theorem kS_Cod_44 : u_CS "UnmarkedPages$Codes" 44 mCod_bitsOfCode 1 := ⟨mo_Cod_bitsOfCode, Or.inl (uw_mem 586 rfl rfl), uw_mem 587 rfl rfl⟩
set_option maxRecDepth 20000 in
theorem kI_Frl_3 : Cond.methodLink "UnmarkedPages$FrontList" 3 Lib.objectInit ∈ uw_W := uw_mem 233 rfl rfl
set_option maxRecDepth 20000 in
theorem kS_Frl_9 : Cond.methodLink "UnmarkedPages$FrontList" 9 Lib.Math.max.name ∈ uw_W := uw_mem 234 rfl rfl
set_option maxRecDepth 20000 in
theorem kV_Frl_25 : u_CV "UnmarkedPages$FrontList" 25 1 mFrl_placeOf 1 := ⟨mo_Frl_placeOf, uw_mem 528 rfl rfl, uw_mem 516 rfl rfl, uw_mem 517 rfl rfl, _, rfl, rfl⟩
set_option maxRecDepth 20000 in
theorem kV_Kno_37 : u_CV "UnmarkedPages$Known" 37 1 mFrl_clear 0 := ⟨mo_Frl_clear, uw_mem 601 rfl rfl, uw_mem 602 rfl rfl, uw_mem 603 rfl rfl, _, rfl, rfl⟩
set_option maxRecDepth 20000 in
theorem kV_Kno_34 : u_CV "UnmarkedPages$Known" 34 6 mRow_fill 1 := ⟨mo_Row_fill, uw_mem 245 rfl rfl, uw_mem 205 rfl rfl, uw_mem 206 rfl rfl, _, rfl, rfl⟩
set_option maxRecDepth 20000 in
theorem kV_Kno_40 : u_CV "UnmarkedPages$Known" 40 6 mRow_at 1 := ⟨mo_Row_at, uw_mem 510 rfl rfl, uw_mem 335 rfl rfl, uw_mem 336 rfl rfl, _, rfl, rfl⟩
set_option maxRecDepth 20000 in
theorem kV_Pag_41 : u_CV "UnmarkedPages$Page" 41 6 mRow_clear 0 := ⟨mo_Row_clear, uw_mem 394 rfl rfl, uw_mem 395 rfl rfl, uw_mem 396 rfl rfl, _, rfl, rfl⟩
set_option maxRecDepth 20000 in
theorem kV_Pag_48 : u_CV "UnmarkedPages$Page" 48 6 mRow_add 1 := ⟨mo_Row_add, uw_mem 452 rfl rfl, uw_mem 405 rfl rfl, uw_mem 406 rfl rfl, _, rfl, rfl⟩
set_option maxRecDepth 20000 in
theorem kV_Pag_51 : u_CV "UnmarkedPages$Page" 51 6 mRow_size 0 := ⟨mo_Row_size, uw_mem 471 rfl rfl, uw_mem 400 rfl rfl, uw_mem 401 rfl rfl, _, rfl, rfl⟩
set_option maxRecDepth 20000 in
theorem kV_Pag_55 : u_CV "UnmarkedPages$Page" 55 6 mRow_last 0 := ⟨mo_Row_last, uw_mem 472 rfl rfl, uw_mem 436 rfl rfl, uw_mem 437 rfl rfl, _, rfl, rfl⟩
set_option maxRecDepth 20000 in
theorem kV_Pag_58 : u_CV "UnmarkedPages$Page" 58 6 mRow_put 2 := ⟨mo_Row_put, uw_mem 473 rfl rfl, uw_mem 371 rfl rfl, uw_mem 372 rfl rfl, _, rfl, rfl⟩
set_option maxRecDepth 20000 in
theorem kV_Pag_62 : u_CV "UnmarkedPages$Page" 62 6 mRow_at 1 := ⟨mo_Row_at, uw_mem 541 rfl rfl, uw_mem 335 rfl rfl, uw_mem 336 rfl rfl, _, rfl, rfl⟩
set_option maxRecDepth 20000 in
theorem kV_Pth_30 : u_CV "UnmarkedPages$PathReader" 30 6 mRow_size 0 := ⟨mo_Row_size, uw_mem 677 rfl rfl, uw_mem 400 rfl rfl, uw_mem 401 rfl rfl, _, rfl, rfl⟩
set_option maxRecDepth 20000 in
theorem kS_Pth_51 : u_CS "UnmarkedPages$PathReader" 51 mUmp_isNameLetter 1 := ⟨mo_Ump_isNameLetter, Or.inr ⟨"UnmarkedPages", by decide +kernel⟩, uw_mem 425 rfl rfl⟩
set_option maxRecDepth 20000 in
theorem kV_Pth_54 : u_CV "UnmarkedPages$PathReader" 54 6 mRow_add 1 := ⟨mo_Row_add, uw_mem 684 rfl rfl, uw_mem 405 rfl rfl, uw_mem 406 rfl rfl, _, rfl, rfl⟩
set_option maxRecDepth 20000 in
theorem kV_Pth_57 : u_CV "UnmarkedPages$PathReader" 57 6 mRow_put 2 := ⟨mo_Row_put, uw_mem 685 rfl rfl, uw_mem 371 rfl rfl, uw_mem 372 rfl rfl, _, rfl, rfl⟩
set_option maxRecDepth 20000 in
theorem kV_Rea_59 : u_CV "UnmarkedPages$Reader" 59 5 mRea_tell 3 := ⟨mo_Rea_tell, uw_mem 416 rfl rfl, uw_mem 418 rfl rfl, uw_mem 3 rfl rfl, _, rfl, rfl⟩
set_option maxRecDepth 20000 in
theorem kV_Rea_48 : u_CV "UnmarkedPages$Reader" 48 6 mRow_at 1 := ⟨mo_Row_at, uw_mem 403 rfl rfl, uw_mem 335 rfl rfl, uw_mem 336 rfl rfl, _, rfl, rfl⟩
set_option maxRecDepth 20000 in
theorem kV_Rea_114 : u_CV "UnmarkedPages$Reader" 114 6 mRow_put 2 := ⟨mo_Row_put, uw_mem 458 rfl rfl, uw_mem 371 rfl rfl, uw_mem 372 rfl rfl, _, rfl, rfl⟩
set_option maxRecDepth 20000 in
theorem kV_Rea_105 : u_CV "UnmarkedPages$Reader" 105 6 mRow_last 0 := ⟨mo_Row_last, uw_mem 435 rfl rfl, uw_mem 436 rfl rfl, uw_mem 437 rfl rfl, _, rfl, rfl⟩
set_option maxRecDepth 20000 in
theorem kV_Rea_52 : u_CV "UnmarkedPages$Reader" 52 6 mRow_add 1 := ⟨mo_Row_add, uw_mem 404 rfl rfl, uw_mem 405 rfl rfl, uw_mem 406 rfl rfl, _, rfl, rfl⟩
set_option maxRecDepth 20000 in
theorem kV_Rea_136 : u_CV "UnmarkedPages$Reader" 136 6 mRow_removeLast 0 := ⟨mo_Row_removeLast, uw_mem 444 rfl rfl, uw_mem 445 rfl rfl, uw_mem 446 rfl rfl, _, rfl, rfl⟩
set_option maxRecDepth 20000 in
theorem kI_Row_3 : Cond.methodLink "UnmarkedPages$Row" 3 Lib.objectInit ∈ uw_W := uw_mem 78 rfl rfl
set_option maxRecDepth 20000 in
theorem kS_Row_9 : Cond.methodLink "UnmarkedPages$Row" 9 Lib.Math.max.name ∈ uw_W := uw_mem 79 rfl rfl
set_option maxRecDepth 20000 in
theorem kS_Row_25 : Cond.methodLink "UnmarkedPages$Row" 25 Lib.Math.min.name ∈ uw_W := uw_mem 350 rfl rfl
set_option maxRecDepth 20000 in
theorem kV_Sta_46 : u_CV "UnmarkedPages$State" 46 6 mRow_at 1 := ⟨mo_Row_at, uw_mem 334 rfl rfl, uw_mem 335 rfl rfl, uw_mem 336 rfl rfl, _, rfl, rfl⟩
set_option maxRecDepth 20000 in
theorem kV_Sta_50 : u_CV "UnmarkedPages$State" 50 6 mRow_put 2 := ⟨mo_Row_put, uw_mem 370 rfl rfl, uw_mem 371 rfl rfl, uw_mem 372 rfl rfl, _, rfl, rfl⟩
set_option maxRecDepth 20000 in
theorem kV_Sta_54 : u_CV "UnmarkedPages$State" 54 6 mRow_countOf 1 := ⟨mo_Row_countOf, uw_mem 378 rfl rfl, uw_mem 379 rfl rfl, uw_mem 380 rfl rfl, _, rfl, rfl⟩
set_option maxRecDepth 20000 in
theorem kV_Sta_38 : u_CV "UnmarkedPages$State" 38 7 mSta_pageAt 1 := ⟨mo_Sta_pageAt, uw_mem 353 rfl rfl, uw_mem 354 rfl rfl, uw_mem 355 rfl rfl, _, rfl, rfl⟩
set_option maxRecDepth 20000 in
theorem kV_Sta_62 : u_CV "UnmarkedPages$State" 62 6 mRow_size 0 := ⟨mo_Row_size, uw_mem 731 rfl rfl, uw_mem 400 rfl rfl, uw_mem 401 rfl rfl, _, rfl, rfl⟩
set_option maxRecDepth 20000 in
theorem kV_Ump_132 : u_CV "UnmarkedPages" 132 6 mRow_size 0 := ⟨mo_Row_size, uw_mem 626 rfl rfl, uw_mem 400 rfl rfl, uw_mem 401 rfl rfl, _, rfl, rfl⟩
set_option maxRecDepth 20000 in
theorem kV_Ump_135 : u_CV "UnmarkedPages" 135 6 mRow_add 1 := ⟨mo_Row_add, uw_mem 627 rfl rfl, uw_mem 405 rfl rfl, uw_mem 406 rfl rfl, _, rfl, rfl⟩
set_option maxRecDepth 20000 in
theorem kV_Ump_138 : u_CV "UnmarkedPages" 138 6 mRow_clear 0 := ⟨mo_Row_clear, uw_mem 632 rfl rfl, uw_mem 395 rfl rfl, uw_mem 396 rfl rfl, _, rfl, rfl⟩
set_option maxRecDepth 20000 in
theorem kV_Ump_123 : u_CV "UnmarkedPages" 123 7 mSta_hasPage 1 := ⟨mo_Sta_hasPage, uw_mem 610 rfl rfl, uw_mem 611 rfl rfl, uw_mem 612 rfl rfl, _, rfl, rfl⟩
set_option maxRecDepth 20000 in
theorem kV_Ump_158 : u_CV "UnmarkedPages" 158 7 mSta_pageAt 1 := ⟨mo_Sta_pageAt, uw_mem 605 rfl rfl, uw_mem 354 rfl rfl, uw_mem 355 rfl rfl, _, rfl, rfl⟩
set_option maxRecDepth 20000 in
theorem kV_Ump_167 : u_CV "UnmarkedPages" 167 6 mRow_at 1 := ⟨mo_Row_at, uw_mem 653 rfl rfl, uw_mem 335 rfl rfl, uw_mem 336 rfl rfl, _, rfl, rfl⟩
set_option maxRecDepth 20000 in
theorem kV_Ump_101 : u_CV "UnmarkedPages" 101 8 mUmp_codesOf 1 := ⟨mo_Ump_codesOf, uw_mem 490 rfl rfl, uw_mem 492 rfl rfl, uw_mem 13 rfl rfl, _, rfl, rfl⟩
set_option maxRecDepth 20000 in
theorem kV_Ump_171 : u_CV "UnmarkedPages" 171 0 mCod_rowAt 1 := ⟨mo_Cod_rowAt, uw_mem 658 rfl rfl, uw_mem 582 rfl rfl, uw_mem 583 rfl rfl, _, rfl, rfl⟩
set_option maxRecDepth 20000 in
theorem kV_Ump_193 : u_CV "UnmarkedPages" 193 2 mKno_namesIn 1 := ⟨mo_Kno_namesIn, uw_mem 712 rfl rfl, uw_mem 512 rfl rfl, uw_mem 513 rfl rfl, _, rfl, rfl⟩
set_option maxRecDepth 20000 in
theorem kV_Ump_197 : u_CV "UnmarkedPages" 197 1 mFrl_size 0 := ⟨mo_Frl_size, uw_mem 713 rfl rfl, uw_mem 520 rfl rfl, uw_mem 521 rfl rfl, _, rfl, rfl⟩
set_option maxRecDepth 20000 in
theorem kV_Ump_200 : u_CV "UnmarkedPages" 200 1 mFrl_at 1 := ⟨mo_Frl_at, uw_mem 714 rfl rfl, uw_mem 715 rfl rfl, uw_mem 716 rfl rfl, _, rfl, rfl⟩
set_option maxRecDepth 20000 in
theorem kI_Mod_1 : Cond.methodLink "UnmarkedPagesModel" 1 Lib.objectInit ∈ uw_W := uw_mem 741 rfl rfl
set_option maxRecDepth 20000 in
theorem kS_Mod_71 : u_CS "UnmarkedPagesModel" 71 mMod_in 3 := ⟨mo_Mod_in, Or.inl (uw_mem 847 rfl rfl), uw_mem 848 rfl rfl⟩
set_option maxRecDepth 20000 in
theorem kV_Mod_97 : u_CV "UnmarkedPagesModel" 97 9 mMod_box 2 := ⟨mo_Mod_box, uw_mem 882 rfl rfl, uw_mem 884 rfl rfl, uw_mem 29 rfl rfl, _, rfl, rfl⟩
set_option maxRecDepth 20000 in
theorem kV_Mod_101 : u_CV "UnmarkedPagesModel" 101 9 mMod_steps 2 := ⟨mo_Mod_steps, uw_mem 890 rfl rfl, uw_mem 892 rfl rfl, uw_mem 31 rfl rfl, _, rfl, rfl⟩
set_option maxRecDepth 20000 in
theorem kV_Mod_150 : u_CV "UnmarkedPagesModel" 150 9 mMod_codes 2 := ⟨mo_Mod_codes, uw_mem 929 rfl rfl, uw_mem 931 rfl rfl, uw_mem 40 rfl rfl, _, rfl, rfl⟩
set_option maxRecDepth 20000 in
theorem kV_Mod_152 : u_CV "UnmarkedPagesModel" 152 9 mMod_isWord 3 := ⟨mo_Mod_isWord, uw_mem 945 rfl rfl, uw_mem 947 rfl rfl, uw_mem 44 rfl rfl, _, rfl, rfl⟩
set_option maxRecDepth 20000 in
theorem kS_Mod_174 : u_CS "UnmarkedPagesModel" 174 mMod_bitsOf 1 := ⟨mo_Mod_bitsOf, Or.inl (uw_mem 957 rfl rfl), uw_mem 958 rfl rfl⟩
set_option maxRecDepth 20000 in
theorem kV_Mod_188 : u_CV "UnmarkedPagesModel" 188 9 mMod_record 0 := ⟨mo_Mod_record, uw_mem 850 rfl rfl, uw_mem 852 rfl rfl, uw_mem 22 rfl rfl, _, rfl, rfl⟩
set_option maxRecDepth 20000 in
theorem kI_Cod_3 : Cond.methodLink "UnmarkedPages$Codes" 3 Lib.objectInit ∈ uw_W := uw_mem 266 rfl rfl
set_option maxRecDepth 20000 in
theorem kI_Cod_11 : u_CI "UnmarkedPages$Codes" 11 mRow_init 1 := ⟨mo_Row_init, Or.inl (uw_mem 268 rfl rfl), uw_mem 76 rfl rfl, rfl, rfl⟩
set_option maxRecDepth 20000 in
theorem kV_Cod_47 : u_CV "UnmarkedPages$Codes" 47 0 mCod_bitsOfRow 1 := ⟨mo_Cod_bitsOfRow, uw_mem 576 rfl rfl, uw_mem 577 rfl rfl, uw_mem 578 rfl rfl, _, rfl, rfl⟩
set_option maxRecDepth 20000 in
theorem kI_Kno_3 : Cond.methodLink "UnmarkedPages$Known" 3 Lib.objectInit ∈ uw_W := uw_mem 226 rfl rfl
set_option maxRecDepth 20000 in
theorem kI_Kno_17 : u_CI "UnmarkedPages$Known" 17 mFrl_init 1 := ⟨mo_Frl_init, Or.inl (uw_mem 230 rfl rfl), uw_mem 231 rfl rfl, rfl, rfl⟩
set_option maxRecDepth 20000 in
theorem kI_Kno_26 : u_CI "UnmarkedPages$Known" 26 mRow_init 1 := ⟨mo_Row_init, Or.inl (uw_mem 244 rfl rfl), uw_mem 76 rfl rfl, rfl, rfl⟩
set_option maxRecDepth 20000 in
theorem kV_Kno_87 : u_CV "UnmarkedPages$Known" 87 2 mKno_namesIn 1 := ⟨mo_Kno_namesIn, uw_mem 511 rfl rfl, uw_mem 512 rfl rfl, uw_mem 513 rfl rfl, _, rfl, rfl⟩
set_option maxRecDepth 20000 in
theorem kV_Kno_91 : u_CV "UnmarkedPages$Known" 91 1 mFrl_placeOf 1 := ⟨mo_Frl_placeOf, uw_mem 515 rfl rfl, uw_mem 516 rfl rfl, uw_mem 517 rfl rfl, _, rfl, rfl⟩
set_option maxRecDepth 20000 in
theorem kV_Kno_95 : u_CV "UnmarkedPages$Known" 95 1 mFrl_size 0 := ⟨mo_Frl_size, uw_mem 519 rfl rfl, uw_mem 520 rfl rfl, uw_mem 521 rfl rfl, _, rfl, rfl⟩
set_option maxRecDepth 20000 in
theorem kV_Kno_96 : u_CV "UnmarkedPages$Known" 96 6 mRow_add 1 := ⟨mo_Row_add, uw_mem 523 rfl rfl, uw_mem 405 rfl rfl, uw_mem 406 rfl rfl, _, rfl, rfl⟩
set_option maxRecDepth 20000 in
theorem kV_Kno_99 : u_CV "UnmarkedPages$Known" 99 1 mFrl_meet 1 := ⟨mo_Frl_meet, uw_mem 524 rfl rfl, uw_mem 525 rfl rfl, uw_mem 526 rfl rfl, _, rfl, rfl⟩
set_option maxRecDepth 20000 in
theorem kV_Kno_126 : u_CV "UnmarkedPages$Known" 126 2 mKno_valueOf 2 := ⟨mo_Kno_valueOf, uw_mem 551 rfl rfl, uw_mem 552 rfl rfl, uw_mem 553 rfl rfl, _, rfl, rfl⟩
set_option maxRecDepth 20000 in
theorem kS_Kno_129 : Cond.methodLink "UnmarkedPages$Known" 129 Lib.Math.max.name ∈ uw_W := uw_mem 555 rfl rfl
set_option maxRecDepth 20000 in
theorem kV_Kno_106 : u_CV "UnmarkedPages$Known" 106 6 mRow_put 2 := ⟨mo_Row_put, uw_mem 542 rfl rfl, uw_mem 371 rfl rfl, uw_mem 372 rfl rfl, _, rfl, rfl⟩
set_option maxRecDepth 20000 in
theorem kI_Pag_3 : Cond.methodLink "UnmarkedPages$Page" 3 Lib.objectInit ∈ uw_W := uw_mem 101 rfl rfl
set_option maxRecDepth 20000 in
theorem kI_Pag_11 : u_CI "UnmarkedPages$Page" 11 mRow_init 1 := ⟨mo_Row_init, Or.inl (uw_mem 103 rfl rfl), uw_mem 76 rfl rfl, rfl, rfl⟩
set_option maxRecDepth 20000 in
theorem kV_Pag_44 : u_CV "UnmarkedPages$Page" 44 6 mRow_become 1 := ⟨mo_Row_become, uw_mem 365 rfl rfl, uw_mem 347 rfl rfl, uw_mem 348 rfl rfl, _, rfl, rfl⟩
set_option maxRecDepth 20000 in
theorem kV_Pag_66 : u_CV "UnmarkedPages$Page" 66 3 mPag_keyOfNote 2 := ⟨mo_Pag_keyOfNote, uw_mem 537 rfl rfl, uw_mem 538 rfl rfl, uw_mem 539 rfl rfl, _, rfl, rfl⟩
set_option maxRecDepth 20000 in
theorem kI_Pth_3 : Cond.methodLink "UnmarkedPages$PathReader" 3 Lib.objectInit ∈ uw_W := uw_mem 181 rfl rfl
set_option maxRecDepth 20000 in
theorem kI_Pth_11 : u_CI "UnmarkedPages$PathReader" 11 mRow_init 1 := ⟨mo_Row_init, Or.inl (uw_mem 183 rfl rfl), uw_mem 76 rfl rfl, rfl, rfl⟩
set_option maxRecDepth 20000 in
theorem kV_Pth_23 : u_CV "UnmarkedPages$PathReader" 23 6 mRow_clear 0 := ⟨mo_Row_clear, uw_mem 676 rfl rfl, uw_mem 395 rfl rfl, uw_mem 396 rfl rfl, _, rfl, rfl⟩
set_option maxRecDepth 20000 in
theorem kV_Pth_34 : u_CV "UnmarkedPages$PathReader" 34 6 mRow_at 1 := ⟨mo_Row_at, uw_mem 678 rfl rfl, uw_mem 335 rfl rfl, uw_mem 336 rfl rfl, _, rfl, rfl⟩
set_option maxRecDepth 20000 in
theorem kV_Pth_38 : u_CV "UnmarkedPages$PathReader" 38 4 mPth_takes 1 := ⟨mo_Pth_takes, uw_mem 679 rfl rfl, uw_mem 681 rfl rfl, uw_mem 20 rfl rfl, _, rfl, rfl⟩
set_option maxRecDepth 20000 in
theorem kV_Pth_47 : u_CV "UnmarkedPages$PathReader" 47 3 mPag_boxInside 3 := ⟨mo_Pag_boxInside, uw_mem 690 rfl rfl, uw_mem 691 rfl rfl, uw_mem 692 rfl rfl, _, rfl, rfl⟩
set_option maxRecDepth 20000 in
theorem kV_Rea_41 : u_CV "UnmarkedPages$Reader" 41 6 mRow_size 0 := ⟨mo_Row_size, uw_mem 399 rfl rfl, uw_mem 400 rfl rfl, uw_mem 401 rfl rfl, _, rfl, rfl⟩
set_option maxRecDepth 20000 in
theorem kV_Rea_90 : u_CV "UnmarkedPages$Reader" 90 5 mRea_latestName 0 := ⟨mo_Rea_latestName, uw_mem 431 rfl rfl, uw_mem 433 rfl rfl, uw_mem 6 rfl rfl, _, rfl, rfl⟩
set_option maxRecDepth 20000 in
theorem kV_Rea_93 : u_CV "UnmarkedPages$Reader" 93 7 mSta_ends 2 := ⟨mo_Sta_ends, uw_mem 439 rfl rfl, uw_mem 331 rfl rfl, uw_mem 332 rfl rfl, _, rfl, rfl⟩
set_option maxRecDepth 20000 in
theorem kV_Rea_99 : u_CV "UnmarkedPages$Reader" 99 5 mRea_close 1 := ⟨mo_Rea_close, uw_mem 440 rfl rfl, uw_mem 442 rfl rfl, uw_mem 7 rfl rfl, _, rfl, rfl⟩
set_option maxRecDepth 20000 in
theorem kV_Rea_108 : u_CV "UnmarkedPages$Reader" 108 3 mPag_addBox 3 := ⟨mo_Pag_addBox, uw_mem 448 rfl rfl, uw_mem 449 rfl rfl, uw_mem 450 rfl rfl, _, rfl, rfl⟩
set_option maxRecDepth 20000 in
theorem kV_Rea_111 : u_CV "UnmarkedPages$Reader" 111 6 mRow_fill 1 := ⟨mo_Row_fill, uw_mem 453 rfl rfl, uw_mem 205 rfl rfl, uw_mem 206 rfl rfl, _, rfl, rfl⟩
set_option maxRecDepth 20000 in
theorem kV_Rea_63 : u_CV "UnmarkedPages$Reader" 63 5 mRea_expect 3 := ⟨mo_Rea_expect, uw_mem 412 rfl rfl, uw_mem 414 rfl rfl, uw_mem 2 rfl rfl, _, rfl, rfl⟩
set_option maxRecDepth 20000 in
theorem kV_Rea_117 : u_CV "UnmarkedPages$Reader" 117 3 mPag_addWord 2 := ⟨mo_Pag_addWord, uw_mem 463 rfl rfl, uw_mem 464 rfl rfl, uw_mem 465 rfl rfl, _, rfl, rfl⟩
set_option maxRecDepth 20000 in
theorem kV_Rea_123 : u_CV "UnmarkedPages$Reader" 123 3 mPag_lengthenWord 0 := ⟨mo_Pag_lengthenWord, uw_mem 467 rfl rfl, uw_mem 468 rfl rfl, uw_mem 469 rfl rfl, _, rfl, rfl⟩
set_option maxRecDepth 20000 in
theorem kS_Ump_67 : u_CS "UnmarkedPages" 67 mUmp_isName 1 := ⟨mo_Ump_isName, Or.inl (uw_mem 327 rfl rfl), uw_mem 328 rfl rfl⟩
set_option maxRecDepth 20000 in
theorem kV_Ump_203 : u_CV "UnmarkedPages" 203 2 mKno_valueOf 2 := ⟨mo_Kno_valueOf, uw_mem 722 rfl rfl, uw_mem 552 rfl rfl, uw_mem 553 rfl rfl, _, rfl, rfl⟩
set_option maxRecDepth 20000 in
theorem kV_Mod_107 : u_CV "UnmarkedPagesModel" 107 9 mMod_isAt 3 := ⟨mo_Mod_isAt, uw_mem 870 rfl rfl, uw_mem 872 rfl rfl, uw_mem 26 rfl rfl, _, rfl, rfl⟩
set_option maxRecDepth 20000 in
theorem kV_Mod_110 : u_CV "UnmarkedPagesModel" 110 9 mMod_fails 3 := ⟨mo_Mod_fails, uw_mem 878 rfl rfl, uw_mem 880 rfl rfl, uw_mem 28 rfl rfl, _, rfl, rfl⟩
set_option maxRecDepth 20000 in
theorem kV_Mod_113 : u_CV "UnmarkedPagesModel" 113 9 mMod_boxes 3 := ⟨mo_Mod_boxes, uw_mem 886 rfl rfl, uw_mem 888 rfl rfl, uw_mem 30 rfl rfl, _, rfl, rfl⟩
set_option maxRecDepth 20000 in
theorem kS_Mod_116 : u_CS "UnmarkedPagesModel" 116 mMod_rankOf 3 := ⟨mo_Mod_rankOf, Or.inl (uw_mem 910 rfl rfl), uw_mem 911 rfl rfl⟩
set_option maxRecDepth 20000 in
theorem kV_Mod_120 : u_CV "UnmarkedPagesModel" 120 9 mMod_implies 2 := ⟨mo_Mod_implies, uw_mem 898 rfl rfl, uw_mem 900 rfl rfl, uw_mem 33 rfl rfl, _, rfl, rfl⟩
set_option maxRecDepth 20000 in
theorem kV_Mod_155 : u_CV "UnmarkedPagesModel" 155 9 mMod_codesName 1 := ⟨mo_Mod_codesName, uw_mem 933 rfl rfl, uw_mem 935 rfl rfl, uw_mem 41 rfl rfl, _, rfl, rfl⟩
set_option maxRecDepth 20000 in
theorem kV_Mod_159 : u_CV "UnmarkedPagesModel" 159 9 mMod_codesNotes 1 := ⟨mo_Mod_codesNotes, uw_mem 937 rfl rfl, uw_mem 939 rfl rfl, uw_mem 42 rfl rfl, _, rfl, rfl⟩
set_option maxRecDepth 20000 in
theorem kV_Mod_162 : u_CV "UnmarkedPagesModel" 162 9 mMod_codesWord 2 := ⟨mo_Mod_codesWord, uw_mem 941 rfl rfl, uw_mem 943 rfl rfl, uw_mem 43 rfl rfl, _, rfl, rfl⟩
set_option maxRecDepth 20000 in
theorem kV_Mod_177 : u_CV "UnmarkedPagesModel" 177 9 mMod_rowBits 1 := ⟨mo_Mod_rowBits, uw_mem 953 rfl rfl, uw_mem 955 rfl rfl, uw_mem 46 rfl rfl, _, rfl, rfl⟩
set_option maxRecDepth 20000 in
theorem kS_Mod_184 : u_CS "UnmarkedPagesModel" 184 mMod_noName 1 := ⟨mo_Mod_noName, Or.inl (uw_mem 844 rfl rfl), uw_mem 845 rfl rfl⟩
set_option maxRecDepth 20000 in
theorem kV_Mod_191 : u_CV "UnmarkedPagesModel" 191 9 mMod_rules 0 := ⟨mo_Mod_rules, uw_mem 854 rfl rfl, uw_mem 856 rfl rfl, uw_mem 23 rfl rfl, _, rfl, rfl⟩
set_option maxRecDepth 20000 in
theorem kV_Mod_200 : u_CV "UnmarkedPagesModel" 200 9 mMod_no 1 := ⟨mo_Mod_no, uw_mem 968 rfl rfl, uw_mem 970 rfl rfl, uw_mem 47 rfl rfl, _, rfl, rfl⟩
set_option maxRecDepth 20000 in
theorem kV_Kno_103 : u_CV "UnmarkedPages$Known" 103 3 mPag_keySet 1 := ⟨mo_Pag_keySet, uw_mem 533 rfl rfl, uw_mem 534 rfl rfl, uw_mem 535 rfl rfl, _, rfl, rfl⟩
set_option maxRecDepth 20000 in
theorem kV_Kno_110 : u_CV "UnmarkedPages$Known" 110 3 mPag_valueOfKey 2 := ⟨mo_Pag_valueOfKey, uw_mem 543 rfl rfl, uw_mem 544 rfl rfl, uw_mem 545 rfl rfl, _, rfl, rfl⟩
set_option maxRecDepth 20000 in
theorem kV_Kno_114 : u_CV "UnmarkedPages$Known" 114 2 mKno_takeValue 4 := ⟨mo_Kno_takeValue, uw_mem 547 rfl rfl, uw_mem 549 rfl rfl, uw_mem 16 rfl rfl, _, rfl, rfl⟩
set_option maxRecDepth 20000 in
theorem kS_Kno_118 : u_CS "UnmarkedPages$Known" 118 mInt_bitCount 1 := ⟨mo_Int_bitCount, Or.inl (uw_mem 556 rfl rfl), uw_mem 557 rfl rfl⟩
set_option maxRecDepth 20000 in
theorem kV_Kno_123 : u_CV "UnmarkedPages$Known" 123 3 mPag_orderOfKeys 2 := ⟨mo_Pag_orderOfKeys, uw_mem 562 rfl rfl, uw_mem 563 rfl rfl, uw_mem 564 rfl rfl, _, rfl, rfl⟩
set_option maxRecDepth 20000 in
theorem kI_Rea_3 : Cond.methodLink "UnmarkedPages$Reader" 3 Lib.objectInit ∈ uw_W := uw_mem 95 rfl rfl
set_option maxRecDepth 20000 in
theorem kI_Rea_11 : u_CI "UnmarkedPages$Reader" 11 mPag_init 0 := ⟨mo_Pag_init, Or.inr ⟨"UnmarkedPages", by decide +kernel⟩, uw_mem 99 rfl rfl, rfl, rfl⟩
set_option maxRecDepth 20000 in
theorem kI_Rea_24 : u_CI "UnmarkedPages$Reader" 24 mRow_init 1 := ⟨mo_Row_init, Or.inl (uw_mem 149 rfl rfl), uw_mem 76 rfl rfl, rfl, rfl⟩
set_option maxRecDepth 20000 in
theorem kS_Rea_83 : u_CS "UnmarkedPages$Reader" 83 mUmp_isNameLetter 1 := ⟨mo_Ump_isNameLetter, Or.inr ⟨"UnmarkedPages", by decide +kernel⟩, uw_mem 425 rfl rfl⟩
set_option maxRecDepth 20000 in
theorem kV_Rea_87 : u_CV "UnmarkedPages$Reader" 87 5 mRea_openBox 3 := ⟨mo_Rea_openBox, uw_mem 427 rfl rfl, uw_mem 429 rfl rfl, uw_mem 5 rfl rfl, _, rfl, rfl⟩
set_option maxRecDepth 20000 in
theorem kV_Rea_126 : u_CV "UnmarkedPages$Reader" 126 5 mRea_isEndedByClosing 2 := ⟨mo_Rea_isEndedByClosing, uw_mem 478 rfl rfl, uw_mem 480 rfl rfl, uw_mem 11 rfl rfl, _, rfl, rfl⟩
set_option maxRecDepth 20000 in
theorem kI_Sta_3 : Cond.methodLink "UnmarkedPages$State" 3 Lib.objectInit ∈ uw_W := uw_mem 199 rfl rfl
set_option maxRecDepth 20000 in
theorem kI_Sta_11 : u_CI "UnmarkedPages$State" 11 mRow_init 1 := ⟨mo_Row_init, Or.inl (uw_mem 201 rfl rfl), uw_mem 76 rfl rfl, rfl, rfl⟩
set_option maxRecDepth 20000 in
theorem kV_Sta_26 : u_CV "UnmarkedPages$State" 26 6 mRow_fill 1 := ⟨mo_Row_fill, uw_mem 204 rfl rfl, uw_mem 205 rfl rfl, uw_mem 206 rfl rfl, _, rfl, rfl⟩
set_option maxRecDepth 20000 in
theorem kI_Sta_29 : u_CI "UnmarkedPages$State" 29 mPag_init 0 := ⟨mo_Pag_init, Or.inr ⟨"UnmarkedPages", by decide +kernel⟩, uw_mem 99 rfl rfl, rfl, rfl⟩
set_option maxRecDepth 20000 in
theorem kV_Sta_57 : u_CV "UnmarkedPages$State" 57 3 mPag_become 1 := ⟨mo_Pag_become, uw_mem 361 rfl rfl, uw_mem 362 rfl rfl, uw_mem 363 rfl rfl, _, rfl, rfl⟩
set_option maxRecDepth 20000 in
theorem kV_Ump_117 : u_CV "UnmarkedPages" 117 0 mCod_bitsOfAll 0 := ⟨mo_Cod_bitsOfAll, uw_mem 572 rfl rfl, uw_mem 573 rfl rfl, uw_mem 574 rfl rfl, _, rfl, rfl⟩
set_option maxRecDepth 20000 in
theorem kV_Ump_175 : u_CV "UnmarkedPages" 175 0 mCod_bitsOfRow 1 := ⟨mo_Cod_bitsOfRow, uw_mem 663 rfl rfl, uw_mem 577 rfl rfl, uw_mem 578 rfl rfl, _, rfl, rfl⟩
set_option maxRecDepth 20000 in
theorem kV_Ump_223 : u_CV "UnmarkedPages" 223 6 mRow_countOf 1 := ⟨mo_Row_countOf, uw_mem 698 rfl rfl, uw_mem 379 rfl rfl, uw_mem 380 rfl rfl, _, rfl, rfl⟩
set_option maxRecDepth 20000 in
theorem kV_Ump_229 : u_CV "UnmarkedPages" 229 3 mPag_keySet 1 := ⟨mo_Pag_keySet, uw_mem 699 rfl rfl, uw_mem 534 rfl rfl, uw_mem 535 rfl rfl, _, rfl, rfl⟩
set_option maxRecDepth 20000 in
theorem kV_Ump_232 : u_CV "UnmarkedPages" 232 6 mRow_placeOf 1 := ⟨mo_Row_placeOf, uw_mem 700 rfl rfl, uw_mem 701 rfl rfl, uw_mem 702 rfl rfl, _, rfl, rfl⟩
set_option maxRecDepth 20000 in
theorem kV_Ump_238 : u_CV "UnmarkedPages" 238 4 mPth_partCount 0 := ⟨mo_Pth_partCount, uw_mem 704 rfl rfl, uw_mem 705 rfl rfl, uw_mem 706 rfl rfl, _, rfl, rfl⟩
set_option maxRecDepth 20000 in
theorem kV_Mod_127 : u_CV "UnmarkedPagesModel" 127 9 mMod_readNotes 2 := ⟨mo_Mod_readNotes, uw_mem 906 rfl rfl, uw_mem 908 rfl rfl, uw_mem 35 rfl rfl, _, rfl, rfl⟩
set_option maxRecDepth 20000 in
theorem kV_Kno_44 : u_CV "UnmarkedPages$Known" 44 0 mCod_clear 0 := ⟨mo_Cod_clear, uw_mem 499 rfl rfl, uw_mem 500 rfl rfl, uw_mem 501 rfl rfl, _, rfl, rfl⟩
set_option maxRecDepth 20000 in
theorem kV_Kno_53 : u_CV "UnmarkedPages$Known" 53 6 mRow_become 1 := ⟨mo_Row_become, uw_mem 504 rfl rfl, uw_mem 347 rfl rfl, uw_mem 348 rfl rfl, _, rfl, rfl⟩
set_option maxRecDepth 20000 in
theorem kV_Kno_60 : u_CV "UnmarkedPages$Known" 60 6 mRow_size 0 := ⟨mo_Row_size, uw_mem 505 rfl rfl, uw_mem 400 rfl rfl, uw_mem 401 rfl rfl, _, rfl, rfl⟩
set_option maxRecDepth 20000 in
theorem kV_Kno_66 : u_CV "UnmarkedPages$Known" 66 2 mKno_takeName 3 := ⟨mo_Kno_takeName, uw_mem 506 rfl rfl, uw_mem 508 rfl rfl, uw_mem 14 rfl rfl, _, rfl, rfl⟩
set_option maxRecDepth 20000 in
theorem kV_Kno_73 : u_CV "UnmarkedPages$Known" 73 2 mKno_takeNotes 3 := ⟨mo_Kno_takeNotes, uw_mem 529 rfl rfl, uw_mem 531 rfl rfl, uw_mem 15 rfl rfl, _, rfl, rfl⟩
set_option maxRecDepth 20000 in
theorem kV_Kno_81 : u_CV "UnmarkedPages$Known" 81 2 mKno_takeWord 3 := ⟨mo_Kno_takeWord, uw_mem 566 rfl rfl, uw_mem 568 rfl rfl, uw_mem 17 rfl rfl, _, rfl, rfl⟩
set_option maxRecDepth 20000 in
theorem kV_Rea_67 : u_CV "UnmarkedPages$Reader" 67 5 mRea_takeBehindMark 3 := ⟨mo_Rea_takeBehindMark, uw_mem 420 rfl rfl, uw_mem 422 rfl rfl, uw_mem 4 rfl rfl, _, rfl, rfl⟩
set_option maxRecDepth 20000 in
theorem kV_Rea_70 : u_CV "UnmarkedPages$Reader" 70 5 mRea_takeKey 2 := ⟨mo_Rea_takeKey, uw_mem 454 rfl rfl, uw_mem 456 rfl rfl, uw_mem 8 rfl rfl, _, rfl, rfl⟩
set_option maxRecDepth 20000 in
theorem kV_Rea_74 : u_CV "UnmarkedPages$Reader" 74 5 mRea_takeInBox 2 := ⟨mo_Rea_takeInBox, uw_mem 459 rfl rfl, uw_mem 461 rfl rfl, uw_mem 9 rfl rfl, _, rfl, rfl⟩
set_option maxRecDepth 20000 in
theorem kV_Rea_77 : u_CV "UnmarkedPages$Reader" 77 5 mRea_takeClosingName 3 := ⟨mo_Rea_takeClosingName, uw_mem 474 rfl rfl, uw_mem 476 rfl rfl, uw_mem 10 rfl rfl, _, rfl, rfl⟩
set_option maxRecDepth 20000 in
theorem kV_Rea_80 : u_CV "UnmarkedPages$Reader" 80 5 mRea_takeClosingEnd 2 := ⟨mo_Rea_takeClosingEnd, uw_mem 482 rfl rfl, uw_mem 484 rfl rfl, uw_mem 12 rfl rfl, _, rfl, rfl⟩
set_option maxRecDepth 20000 in
theorem kV_Sta_30 : u_CV "UnmarkedPages$State" 30 6 mRow_become 1 := ⟨mo_Row_become, uw_mem 346 rfl rfl, uw_mem 347 rfl rfl, uw_mem 348 rfl rfl, _, rfl, rfl⟩
set_option maxRecDepth 20000 in
theorem kV_Sta_42 : u_CV "UnmarkedPages$State" 42 7 mSta_addPage 1 := ⟨mo_Sta_addPage, uw_mem 357 rfl rfl, uw_mem 358 rfl rfl, uw_mem 359 rfl rfl, _, rfl, rfl⟩
set_option maxRecDepth 20000 in
theorem kI_Ump_1 : Cond.methodLink "UnmarkedPages" 1 Lib.objectInit ∈ uw_W := uw_mem 70 rfl rfl
set_option maxRecDepth 20000 in
theorem kI_Ump_11 : u_CI "UnmarkedPages" 11 mRow_init 1 := ⟨mo_Row_init, Or.inl (uw_mem 75 rfl rfl), uw_mem 76 rfl rfl, rfl, rfl⟩
set_option maxRecDepth 20000 in
theorem kI_Ump_20 : u_CI "UnmarkedPages" 20 mRea_init 0 := ⟨mo_Rea_init, Or.inr ⟨"UnmarkedPages", by decide +kernel⟩, uw_mem 93 rfl rfl, rfl, rfl⟩
set_option maxRecDepth 20000 in
theorem kI_Ump_27 : u_CI "UnmarkedPages" 27 mPth_init 0 := ⟨mo_Pth_init, Or.inr ⟨"UnmarkedPages", by decide +kernel⟩, uw_mem 179 rfl rfl, rfl, rfl⟩
set_option maxRecDepth 20000 in
theorem kI_Ump_34 : u_CI "UnmarkedPages" 34 mSta_init 0 := ⟨mo_Sta_init, Or.inl (uw_mem 196 rfl rfl), uw_mem 197 rfl rfl, rfl, rfl⟩
set_option maxRecDepth 20000 in
theorem kI_Ump_48 : u_CI "UnmarkedPages" 48 mKno_init 0 := ⟨mo_Kno_init, Or.inl (uw_mem 223 rfl rfl), uw_mem 224 rfl rfl, rfl, rfl⟩
set_option maxRecDepth 20000 in
theorem kI_Ump_62 : u_CI "UnmarkedPages" 62 mCod_init 0 := ⟨mo_Cod_init, Or.inr ⟨"UnmarkedPages", by decide +kernel⟩, uw_mem 264 rfl rfl, rfl, rfl⟩
set_option maxRecDepth 20000 in
theorem kV_Ump_181 : u_CV "UnmarkedPages" 181 4 mPth_readFault 1 := ⟨mo_Pth_readFault, uw_mem 672 rfl rfl, uw_mem 673 rfl rfl, uw_mem 674 rfl rfl, _, rfl, rfl⟩
set_option maxRecDepth 20000 in
theorem kV_Ump_185 : u_CV "UnmarkedPages" 185 4 mPth_boxIn 1 := ⟨mo_Pth_boxIn, uw_mem 686 rfl rfl, uw_mem 687 rfl rfl, uw_mem 688 rfl rfl, _, rfl, rfl⟩
set_option maxRecDepth 20000 in
theorem kV_Ump_189 : u_CV "UnmarkedPages" 189 8 mUmp_toldOfBox 3 := ⟨mo_Ump_toldOfBox, uw_mem 694 rfl rfl, uw_mem 696 rfl rfl, uw_mem 21 rfl rfl, _, rfl, rfl⟩
set_option maxRecDepth 20000 in
theorem kV_Ump_82 : u_CV "UnmarkedPages" 82 7 mSta_ruleCount 0 := ⟨mo_Sta_ruleCount, uw_mem 374 rfl rfl, uw_mem 375 rfl rfl, uw_mem 376 rfl rfl, _, rfl, rfl⟩
set_option maxRecDepth 20000 in
theorem kV_Ump_126 : u_CV "UnmarkedPages" 126 8 mUmp_bitsOfAllPages 0 := ⟨mo_Ump_bitsOfAllPages, uw_mem 614 rfl rfl, uw_mem 616 rfl rfl, uw_mem 19 rfl rfl, _, rfl, rfl⟩
set_option maxRecDepth 20000 in
theorem kV_Ump_207 : u_CV "UnmarkedPages" 207 7 mSta_letterCount 0 := ⟨mo_Sta_letterCount, uw_mem 727 rfl rfl, uw_mem 728 rfl rfl, uw_mem 729 rfl rfl, _, rfl, rfl⟩
set_option maxRecDepth 20000 in
theorem kV_Ump_214 : u_CV "UnmarkedPages" 214 7 mSta_stepCount 1 := ⟨mo_Sta_stepCount, uw_mem 732 rfl rfl, uw_mem 733 rfl rfl, uw_mem 734 rfl rfl, _, rfl, rfl⟩
set_option maxRecDepth 20000 in
theorem kV_Mod_130 : u_CV "UnmarkedPagesModel" 130 9 mMod_readWord 1 := ⟨mo_Mod_readWord, uw_mem 874 rfl rfl, uw_mem 876 rfl rfl, uw_mem 27 rfl rfl, _, rfl, rfl⟩
set_option maxRecDepth 20000 in
theorem kV_Mod_134 : u_CV "UnmarkedPagesModel" 134 9 mMod_closes 1 := ⟨mo_Mod_closes, uw_mem 894 rfl rfl, uw_mem 896 rfl rfl, uw_mem 32 rfl rfl, _, rfl, rfl⟩
set_option maxRecDepth 20000 in
theorem kV_Mod_137 : u_CV "UnmarkedPagesModel" 137 9 mMod_opens 1 := ⟨mo_Mod_opens, uw_mem 902 rfl rfl, uw_mem 904 rfl rfl, uw_mem 34 rfl rfl, _, rfl, rfl⟩
set_option maxRecDepth 20000 in
theorem kV_Rea_34 : u_CV "UnmarkedPages$Reader" 34 3 mPag_clear 0 := ⟨mo_Pag_clear, uw_mem 390 rfl rfl, uw_mem 391 rfl rfl, uw_mem 392 rfl rfl, _, rfl, rfl⟩
set_option maxRecDepth 20000 in
theorem kV_Rea_37 : u_CV "UnmarkedPages$Reader" 37 6 mRow_clear 0 := ⟨mo_Row_clear, uw_mem 398 rfl rfl, uw_mem 395 rfl rfl, uw_mem 396 rfl rfl, _, rfl, rfl⟩
set_option maxRecDepth 20000 in
theorem kV_Rea_55 : u_CV "UnmarkedPages$Reader" 55 5 mRea_take 3 := ⟨mo_Rea_take, uw_mem 408 rfl rfl, uw_mem 410 rfl rfl, uw_mem 1 rfl rfl, _, rfl, rfl⟩
set_option maxRecDepth 20000 in
theorem kV_Ump_150 : u_CV "UnmarkedPages" 150 7 mSta_become 1 := ⟨mo_Sta_become, uw_mem 342 rfl rfl, uw_mem 343 rfl rfl, uw_mem 344 rfl rfl, _, rfl, rfl⟩
set_option maxRecDepth 20000 in
theorem kV_Ump_178 : u_CV "UnmarkedPages" 178 2 mKno_forget 0 := ⟨mo_Kno_forget, uw_mem 597 rfl rfl, uw_mem 598 rfl rfl, uw_mem 599 rfl rfl, _, rfl, rfl⟩
set_option maxRecDepth 20000 in
theorem kV_Ump_113 : u_CV "UnmarkedPages" 113 2 mKno_take 2 := ⟨mo_Kno_take, uw_mem 495 rfl rfl, uw_mem 496 rfl rfl, uw_mem 497 rfl rfl, _, rfl, rfl⟩
set_option maxRecDepth 20000 in
theorem kV_Mod_143 : u_CV "UnmarkedPagesModel" 143 9 mMod_isPage 0 := ⟨mo_Mod_isPage, uw_mem 866 rfl rfl, uw_mem 868 rfl rfl, uw_mem 25 rfl rfl, _, rfl, rfl⟩
set_option maxRecDepth 20000 in
theorem kV_Mod_194 : u_CV "UnmarkedPagesModel" 194 9 mMod_takesText 0 := ⟨mo_Mod_takesText, uw_mem 862 rfl rfl, uw_mem 864 rfl rfl, uw_mem 24 rfl rfl, _, rfl, rfl⟩
set_option maxRecDepth 20000 in
theorem kV_Ump_71 : u_CV "UnmarkedPages" 71 7 mSta_ends 2 := ⟨mo_Sta_ends, uw_mem 330 rfl rfl, uw_mem 331 rfl rfl, uw_mem 332 rfl rfl, _, rfl, rfl⟩
set_option maxRecDepth 20000 in
theorem kV_Ump_75 : u_CV "UnmarkedPages" 75 8 mUmp_recordState 0 := ⟨mo_Ump_recordState, uw_mem 338 rfl rfl, uw_mem 340 rfl rfl, uw_mem 0 rfl rfl, _, rfl, rfl⟩
set_option maxRecDepth 20000 in
theorem kV_Ump_78 : u_CV "UnmarkedPages" 78 7 mSta_setEnds 3 := ⟨mo_Sta_setEnds, uw_mem 366 rfl rfl, uw_mem 367 rfl rfl, uw_mem 368 rfl rfl, _, rfl, rfl⟩
set_option maxRecDepth 20000 in
theorem kV_Ump_86 : u_CV "UnmarkedPages" 86 5 mRea_read 2 := ⟨mo_Rea_read, uw_mem 386 rfl rfl, uw_mem 387 rfl rfl, uw_mem 388 rfl rfl, _, rfl, rfl⟩
set_option maxRecDepth 20000 in
theorem kV_Ump_90 : u_CV "UnmarkedPages" 90 5 mRea_hasFault 0 := ⟨mo_Rea_hasFault, uw_mem 486 rfl rfl, uw_mem 487 rfl rfl, uw_mem 488 rfl rfl, _, rfl, rfl⟩
set_option maxRecDepth 20000 in
theorem kV_Ump_109 : u_CV "UnmarkedPages" 109 7 mSta_addPage 1 := ⟨mo_Sta_addPage, uw_mem 494 rfl rfl, uw_mem 358 rfl rfl, uw_mem 359 rfl rfl, _, rfl, rfl⟩
set_option maxRecDepth 20000 in
theorem kV_Ump_120 : u_CV "UnmarkedPages" 120 8 mUmp_packAnew 0 := ⟨mo_Ump_packAnew, uw_mem 593 rfl rfl, uw_mem 595 rfl rfl, uw_mem 18 rfl rfl, _, rfl, rfl⟩
set_option maxRecDepth 20000 in
theorem kV_Ump_129 : u_CV "UnmarkedPages" 129 7 mSta_bringToFront 1 := ⟨mo_Sta_bringToFront, uw_mem 618 rfl rfl, uw_mem 619 rfl rfl, uw_mem 620 rfl rfl, _, rfl, rfl⟩
set_option maxRecDepth 20000 in
theorem kV_Mod_165 : u_CV "UnmarkedPagesModel" 165 9 mMod_forgets 0 := ⟨mo_Mod_forgets, uw_mem 917 rfl rfl, uw_mem 919 rfl rfl, uw_mem 37 rfl rfl, _, rfl, rfl⟩
set_option maxRecDepth 20000 in
theorem kV_Mod_168 : u_CV "UnmarkedPagesModel" 168 9 mMod_takesPage 1 := ⟨mo_Mod_takesPage, uw_mem 921 rfl rfl, uw_mem 923 rfl rfl, uw_mem 38 rfl rfl, _, rfl, rfl⟩
set_option maxRecDepth 20000 in
theorem kV_Mod_171 : u_CV "UnmarkedPagesModel" 171 9 mMod_packs 0 := ⟨mo_Mod_packs, uw_mem 925 rfl rfl, uw_mem 927 rfl rfl, uw_mem 39 rfl rfl, _, rfl, rfl⟩
set_option maxRecDepth 20000 in
theorem kV_Mod_180 : u_CV "UnmarkedPagesModel" 180 9 mMod_pageBits 0 := ⟨mo_Mod_pageBits, uw_mem 949 rfl rfl, uw_mem 951 rfl rfl, uw_mem 45 rfl rfl, _, rfl, rfl⟩
set_option maxRecDepth 20000 in
theorem kV_Mod_210 : u_CV "UnmarkedPagesModel" 210 9 mMod_partsOfText 0 := ⟨mo_Mod_partsOfText, uw_mem 1020 rfl rfl, uw_mem 1022 rfl rfl, uw_mem 49 rfl rfl, _, rfl, rfl⟩
set_option maxRecDepth 20000 in
theorem kV_Mod_213 : u_CV "UnmarkedPagesModel" 213 9 mMod_inner 3 := ⟨mo_Mod_inner, uw_mem 1024 rfl rfl, uw_mem 1026 rfl rfl, uw_mem 50 rfl rfl, _, rfl, rfl⟩
set_option maxRecDepth 20000 in
theorem kV_Mod_197 : u_CV "UnmarkedPagesModel" 197 9 mMod_packsUpTo 1 := ⟨mo_Mod_packsUpTo, uw_mem 913 rfl rfl, uw_mem 915 rfl rfl, uw_mem 36 rfl rfl, _, rfl, rfl⟩
set_option maxRecDepth 20000 in
theorem kV_Mod_203 : u_CV "UnmarkedPagesModel" 203 9 mMod_allBits 0 := ⟨mo_Mod_allBits, uw_mem 972 rfl rfl, uw_mem 974 rfl rfl, uw_mem 48 rfl rfl, _, rfl, rfl⟩
set_option maxRecDepth 20000 in
theorem kV_Mod_216 : u_CV "UnmarkedPagesModel" 216 9 mMod_overPages 1 := ⟨mo_Mod_overPages, uw_mem 1040 rfl rfl, uw_mem 1042 rfl rfl, uw_mem 51 rfl rfl, _, rfl, rfl⟩
set_option maxRecDepth 20000 in
theorem kI_Law_9 : u_CI "UnmarkedPagesLaw" 9 mUmp_init 0 := ⟨mo_Ump_init, Or.inl (uw_mem 67 rfl rfl), uw_mem 68 rfl rfl, rfl, rfl⟩
set_option maxRecDepth 20000 in
theorem kI_Law_12 : u_CI "UnmarkedPagesLaw" 12 mMod_init 0 := ⟨mo_Mod_init, Or.inl (uw_mem 738 rfl rfl), uw_mem 739 rfl rfl, rfl, rfl⟩
set_option maxRecDepth 20000 in
theorem kV_Law_13 : u_CV "UnmarkedPagesLaw" 13 8 mUmp_rule 3 := ⟨mo_Ump_rule, uw_mem 323 rfl rfl, uw_mem 324 rfl rfl, uw_mem 325 rfl rfl, _, rfl, rfl⟩
set_option maxRecDepth 20000 in
theorem kV_Law_17 : u_CV "UnmarkedPagesLaw" 17 9 mMod_rule 3 := ⟨mo_Mod_rule, uw_mem 840 rfl rfl, uw_mem 841 rfl rfl, uw_mem 842 rfl rfl, _, rfl, rfl⟩
set_option maxRecDepth 20000 in
theorem kV_Law_18 : u_CV "UnmarkedPagesLaw" 18 8 mUmp_pack 0 := ⟨mo_Ump_pack, uw_mem 382 rfl rfl, uw_mem 383 rfl rfl, uw_mem 384 rfl rfl, _, rfl, rfl⟩
set_option maxRecDepth 20000 in
theorem kV_Law_22 : u_CV "UnmarkedPagesLaw" 22 9 mMod_pack 0 := ⟨mo_Mod_pack, uw_mem 858 rfl rfl, uw_mem 859 rfl rfl, uw_mem 860 rfl rfl, _, rfl, rfl⟩
set_option maxRecDepth 20000 in
theorem kV_Law_23 : u_CV "UnmarkedPagesLaw" 23 8 mUmp_unpackLast 0 := ⟨mo_Ump_unpackLast, uw_mem 589 rfl rfl, uw_mem 590 rfl rfl, uw_mem 591 rfl rfl, _, rfl, rfl⟩
set_option maxRecDepth 20000 in
theorem kV_Law_26 : u_CV "UnmarkedPagesLaw" 26 9 mMod_unpackLast 0 := ⟨mo_Mod_unpackLast, uw_mem 960 rfl rfl, uw_mem 961 rfl rfl, uw_mem 962 rfl rfl, _, rfl, rfl⟩
set_option maxRecDepth 20000 in
theorem kV_Law_27 : u_CV "UnmarkedPagesLaw" 27 8 mUmp_first 1 := ⟨mo_Ump_first, uw_mem 606 rfl rfl, uw_mem 607 rfl rfl, uw_mem 608 rfl rfl, _, rfl, rfl⟩
set_option maxRecDepth 20000 in
theorem kV_Law_31 : u_CV "UnmarkedPagesLaw" 31 9 mMod_first 1 := ⟨mo_Mod_first, uw_mem 964 rfl rfl, uw_mem 965 rfl rfl, uw_mem 966 rfl rfl, _, rfl, rfl⟩
set_option maxRecDepth 20000 in
theorem kV_Law_32 : u_CV "UnmarkedPagesLaw" 32 8 mUmp_type 1 := ⟨mo_Ump_type, uw_mem 622 rfl rfl, uw_mem 623 rfl rfl, uw_mem 624 rfl rfl, _, rfl, rfl⟩
set_option maxRecDepth 20000 in
theorem kV_Law_36 : u_CV "UnmarkedPagesLaw" 36 9 mMod_type 1 := ⟨mo_Mod_type, uw_mem 976 rfl rfl, uw_mem 977 rfl rfl, uw_mem 978 rfl rfl, _, rfl, rfl⟩
set_option maxRecDepth 20000 in
theorem kV_Law_37 : u_CV "UnmarkedPagesLaw" 37 8 mUmp_clearText 0 := ⟨mo_Ump_clearText, uw_mem 628 rfl rfl, uw_mem 629 rfl rfl, uw_mem 630 rfl rfl, _, rfl, rfl⟩
set_option maxRecDepth 20000 in
theorem kV_Law_40 : u_CV "UnmarkedPagesLaw" 40 9 mMod_clearText 0 := ⟨mo_Mod_clearText, uw_mem 980 rfl rfl, uw_mem 981 rfl rfl, uw_mem 982 rfl rfl, _, rfl, rfl⟩
set_option maxRecDepth 20000 in
theorem kV_Law_41 : u_CV "UnmarkedPagesLaw" 41 8 mUmp_fault 1 := ⟨mo_Ump_fault, uw_mem 633 rfl rfl, uw_mem 634 rfl rfl, uw_mem 635 rfl rfl, _, rfl, rfl⟩
set_option maxRecDepth 20000 in
theorem kV_Law_44 : u_CV "UnmarkedPagesLaw" 44 9 mMod_fault 1 := ⟨mo_Mod_fault, uw_mem 984 rfl rfl, uw_mem 985 rfl rfl, uw_mem 986 rfl rfl, _, rfl, rfl⟩
set_option maxRecDepth 20000 in
theorem kV_Law_45 : u_CV "UnmarkedPagesLaw" 45 8 mUmp_undo 0 := ⟨mo_Ump_undo, uw_mem 637 rfl rfl, uw_mem 638 rfl rfl, uw_mem 639 rfl rfl, _, rfl, rfl⟩
set_option maxRecDepth 20000 in
theorem kV_Law_48 : u_CV "UnmarkedPagesLaw" 48 9 mMod_undo 0 := ⟨mo_Mod_undo, uw_mem 988 rfl rfl, uw_mem 989 rfl rfl, uw_mem 990 rfl rfl, _, rfl, rfl⟩
set_option maxRecDepth 20000 in
theorem kV_Law_49 : u_CV "UnmarkedPagesLaw" 49 8 mUmp_keep 0 := ⟨mo_Ump_keep, uw_mem 641 rfl rfl, uw_mem 642 rfl rfl, uw_mem 643 rfl rfl, _, rfl, rfl⟩
set_option maxRecDepth 20000 in
theorem kV_Law_52 : u_CV "UnmarkedPagesLaw" 52 9 mMod_keep 0 := ⟨mo_Mod_keep, uw_mem 992 rfl rfl, uw_mem 993 rfl rfl, uw_mem 994 rfl rfl, _, rfl, rfl⟩
set_option maxRecDepth 20000 in
theorem kV_Law_53 : u_CV "UnmarkedPagesLaw" 53 8 mUmp_restore 0 := ⟨mo_Ump_restore, uw_mem 645 rfl rfl, uw_mem 646 rfl rfl, uw_mem 647 rfl rfl, _, rfl, rfl⟩
set_option maxRecDepth 20000 in
theorem kV_Law_56 : u_CV "UnmarkedPagesLaw" 56 9 mMod_restore 0 := ⟨mo_Mod_restore, uw_mem 996 rfl rfl, uw_mem 997 rfl rfl, uw_mem 998 rfl rfl, _, rfl, rfl⟩
set_option maxRecDepth 20000 in
theorem kV_Law_57 : u_CV "UnmarkedPagesLaw" 57 8 mUmp_charAt 2 := ⟨mo_Ump_charAt, uw_mem 649 rfl rfl, uw_mem 650 rfl rfl, uw_mem 651 rfl rfl, _, rfl, rfl⟩
set_option maxRecDepth 20000 in
theorem kV_Law_61 : u_CV "UnmarkedPagesLaw" 61 9 mMod_charAt 2 := ⟨mo_Mod_charAt, uw_mem 1000 rfl rfl, uw_mem 1001 rfl rfl, uw_mem 1002 rfl rfl, _, rfl, rfl⟩
set_option maxRecDepth 20000 in
theorem kV_Law_62 : u_CV "UnmarkedPagesLaw" 62 8 mUmp_code 3 := ⟨mo_Ump_code, uw_mem 654 rfl rfl, uw_mem 655 rfl rfl, uw_mem 656 rfl rfl, _, rfl, rfl⟩
set_option maxRecDepth 20000 in
theorem kV_Law_66 : u_CV "UnmarkedPagesLaw" 66 9 mMod_code 3 := ⟨mo_Mod_code, uw_mem 1004 rfl rfl, uw_mem 1005 rfl rfl, uw_mem 1006 rfl rfl, _, rfl, rfl⟩
set_option maxRecDepth 20000 in
theorem kV_Law_67 : u_CV "UnmarkedPagesLaw" 67 8 mUmp_bits 2 := ⟨mo_Ump_bits, uw_mem 659 rfl rfl, uw_mem 660 rfl rfl, uw_mem 661 rfl rfl, _, rfl, rfl⟩
set_option maxRecDepth 20000 in
theorem kV_Law_70 : u_CV "UnmarkedPagesLaw" 70 9 mMod_bits 2 := ⟨mo_Mod_bits, uw_mem 1008 rfl rfl, uw_mem 1009 rfl rfl, uw_mem 1010 rfl rfl, _, rfl, rfl⟩
set_option maxRecDepth 20000 in
theorem kV_Law_71 : u_CV "UnmarkedPagesLaw" 71 8 mUmp_wouldTake 1 := ⟨mo_Ump_wouldTake, uw_mem 664 rfl rfl, uw_mem 665 rfl rfl, uw_mem 666 rfl rfl, _, rfl, rfl⟩
set_option maxRecDepth 20000 in
theorem kV_Law_75 : u_CV "UnmarkedPagesLaw" 75 9 mMod_wouldTake 1 := ⟨mo_Mod_wouldTake, uw_mem 1012 rfl rfl, uw_mem 1013 rfl rfl, uw_mem 1014 rfl rfl, _, rfl, rfl⟩
set_option maxRecDepth 20000 in
theorem kV_Law_76 : u_CV "UnmarkedPagesLaw" 76 8 mUmp_path 2 := ⟨mo_Ump_path, uw_mem 668 rfl rfl, uw_mem 669 rfl rfl, uw_mem 670 rfl rfl, _, rfl, rfl⟩
set_option maxRecDepth 20000 in
theorem kV_Law_79 : u_CV "UnmarkedPagesLaw" 79 9 mMod_path 2 := ⟨mo_Mod_path, uw_mem 1016 rfl rfl, uw_mem 1017 rfl rfl, uw_mem 1018 rfl rfl, _, rfl, rfl⟩
set_option maxRecDepth 20000 in
theorem kV_Law_80 : u_CV "UnmarkedPagesLaw" 80 8 mUmp_known 2 := ⟨mo_Ump_known, uw_mem 708 rfl rfl, uw_mem 709 rfl rfl, uw_mem 710 rfl rfl, _, rfl, rfl⟩
set_option maxRecDepth 20000 in
theorem kV_Law_83 : u_CV "UnmarkedPagesLaw" 83 9 mMod_known 2 := ⟨mo_Mod_known, uw_mem 1028 rfl rfl, uw_mem 1029 rfl rfl, uw_mem 1030 rfl rfl, _, rfl, rfl⟩
set_option maxRecDepth 20000 in
theorem kV_Law_84 : u_CV "UnmarkedPagesLaw" 84 8 mUmp_latest 2 := ⟨mo_Ump_latest, uw_mem 718 rfl rfl, uw_mem 719 rfl rfl, uw_mem 720 rfl rfl, _, rfl, rfl⟩
set_option maxRecDepth 20000 in
theorem kV_Law_87 : u_CV "UnmarkedPagesLaw" 87 9 mMod_latest 2 := ⟨mo_Mod_latest, uw_mem 1032 rfl rfl, uw_mem 1033 rfl rfl, uw_mem 1034 rfl rfl, _, rfl, rfl⟩
set_option maxRecDepth 20000 in
theorem kV_Law_88 : u_CV "UnmarkedPagesLaw" 88 8 mUmp_count 1 := ⟨mo_Ump_count, uw_mem 723 rfl rfl, uw_mem 724 rfl rfl, uw_mem 725 rfl rfl, _, rfl, rfl⟩
set_option maxRecDepth 20000 in
theorem kV_Law_91 : u_CV "UnmarkedPagesLaw" 91 9 mMod_count 1 := ⟨mo_Mod_count, uw_mem 1036 rfl rfl, uw_mem 1037 rfl rfl, uw_mem 1038 rfl rfl, _, rfl, rfl⟩
set_option maxRecDepth 20000 in
theorem w_oi : Cond.instanceMethod Lib.objectInit ∈ uw_W := uw_mem 71 rfl rfl
set_option maxRecDepth 20000 in
theorem w_oc : Cond.code Lib.objectInit ⟨#[0xb1]⟩ 1 none ∈ uw_W := uw_mem 72 rfl rfl
set_option maxRecDepth 20000 in
theorem w_mi : Cond.initialized "java/lang/Math" ∈ uw_W := uw_mem 55 rfl rfl
set_option maxRecDepth 20000 in
theorem w_maxs : Cond.static Lib.Math.max.name ∈ uw_W := uw_mem 80 rfl rfl
set_option maxRecDepth 20000 in
theorem w_maxc : Cond.code Lib.Math.max.name Lib.Math.max.code 2 (some .int) ∈ uw_W := uw_mem 81 rfl rfl
set_option maxRecDepth 20000 in
theorem w_mins : Cond.static Lib.Math.min.name ∈ uw_W := uw_mem 351 rfl rfl
set_option maxRecDepth 20000 in
theorem w_minc : Cond.code Lib.Math.min.name Lib.Math.min.code 2 (some .int) ∈ uw_W := uw_mem 352 rfl rfl
set_option maxRecDepth 20000 in
theorem kC_Cod_9 : Cond.classLink "UnmarkedPages$Codes" 9 "UnmarkedPages$Row" ∈ uw_W := uw_mem 267 rfl rfl
set_option maxRecDepth 20000 in
theorem kC_Kno_9 : Cond.classLink "UnmarkedPages$Known" 9 "UnmarkedPages$FrontList" ∈ uw_W := uw_mem 227 rfl rfl
set_option maxRecDepth 20000 in
theorem kC_Kno_24 : Cond.classLink "UnmarkedPages$Known" 24 "UnmarkedPages$Row" ∈ uw_W := uw_mem 243 rfl rfl
set_option maxRecDepth 20000 in
theorem kC_Pag_9 : Cond.classLink "UnmarkedPages$Page" 9 "UnmarkedPages$Row" ∈ uw_W := uw_mem 102 rfl rfl
set_option maxRecDepth 20000 in
theorem kC_Pth_9 : Cond.classLink "UnmarkedPages$PathReader" 9 "UnmarkedPages$Row" ∈ uw_W := uw_mem 182 rfl rfl
set_option maxRecDepth 20000 in
theorem kC_Rea_9 : Cond.classLink "UnmarkedPages$Reader" 9 "UnmarkedPages$Page" ∈ uw_W := uw_mem 96 rfl rfl
set_option maxRecDepth 20000 in
theorem kC_Rea_22 : Cond.classLink "UnmarkedPages$Reader" 22 "UnmarkedPages$Row" ∈ uw_W := uw_mem 148 rfl rfl
set_option maxRecDepth 20000 in
theorem kC_Sta_9 : Cond.classLink "UnmarkedPages$State" 9 "UnmarkedPages$Row" ∈ uw_W := uw_mem 200 rfl rfl
set_option maxRecDepth 20000 in
theorem kC_Sta_20 : Cond.classLink "UnmarkedPages$State" 20 "UnmarkedPages$Page" ∈ uw_W := uw_mem 202 rfl rfl
set_option maxRecDepth 20000 in
theorem kC_Ump_7 : Cond.classLink "UnmarkedPages" 7 "UnmarkedPages$Row" ∈ uw_W := uw_mem 73 rfl rfl
set_option maxRecDepth 20000 in
theorem kC_Ump_18 : Cond.classLink "UnmarkedPages" 18 "UnmarkedPages$Reader" ∈ uw_W := uw_mem 90 rfl rfl
set_option maxRecDepth 20000 in
theorem kC_Ump_25 : Cond.classLink "UnmarkedPages" 25 "UnmarkedPages$PathReader" ∈ uw_W := uw_mem 176 rfl rfl
set_option maxRecDepth 20000 in
theorem kC_Ump_32 : Cond.classLink "UnmarkedPages" 32 "UnmarkedPages$State" ∈ uw_W := uw_mem 194 rfl rfl
set_option maxRecDepth 20000 in
theorem kC_Ump_46 : Cond.classLink "UnmarkedPages" 46 "UnmarkedPages$Known" ∈ uw_W := uw_mem 221 rfl rfl
set_option maxRecDepth 20000 in
theorem kC_Ump_53 : Cond.classLink "UnmarkedPages" 53 "UnmarkedPages$Codes" ∈ uw_W := uw_mem 260 rfl rfl
set_option maxRecDepth 20000 in
theorem kC_Law_7 : Cond.classLink "UnmarkedPagesLaw" 7 "UnmarkedPages" ∈ uw_W := uw_mem 65 rfl rfl
set_option maxRecDepth 20000 in
theorem kC_Law_10 : Cond.classLink "UnmarkedPagesLaw" 10 "UnmarkedPagesModel" ∈ uw_W := uw_mem 736 rfl rfl
set_option maxRecDepth 20000 in
theorem w_aint : Cond.arrayClass .int ∈ uw_W := uw_mem 89 rfl rfl
set_option maxRecDepth 20000 in
theorem w_along : Cond.arrayClass .long ∈ uw_W := uw_mem 242 rfl rfl
set_option maxRecDepth 20000 in
theorem w_achar : Cond.arrayClass .char ∈ uw_W := uw_mem 839 rfl rfl
set_option maxRecDepth 20000 in
theorem w_i265 : Cond.constant "java/lang/Integer" 265 (1431655765 : Int32) ∈ uw_W := uw_mem 559 rfl rfl
set_option maxRecDepth 20000 in
theorem w_i266 : Cond.constant "java/lang/Integer" 266 (858993459 : Int32) ∈ uw_W := uw_mem 560 rfl rfl
set_option maxRecDepth 20000 in
theorem w_i267 : Cond.constant "java/lang/Integer" 267 (252645135 : Int32) ∈ uw_W := uw_mem 561 rfl rfl
set_option maxRecDepth 20000 in
theorem w_l137 : Cond.constantLong "UnmarkedPages$Known" 137 (17 : Int64) ∈ uw_W := uw_mem 570 rfl rfl
set_option maxRecDepth 20000 in
theorem w_l142 : Cond.constantLong "UnmarkedPages$Known" 142 (103 : Int64) ∈ uw_W := uw_mem 571 rfl rfl
end
section
/-! decode rows of the class -/
theorem dCod_init_0 : uD prog_2_method_1_code 0 (.aload_n 0) 1 1 := ⟨by decide +kernel, rfl⟩
theorem dCod_init_1 : uD prog_2_method_1_code 1 (.invokespecial 3) 3 4 := ⟨by decide +kernel, rfl⟩
theorem dCod_init_4 : uD prog_2_method_1_code 4 (.aload_n 0) 1 5 := ⟨by decide +kernel, rfl⟩
theorem dCod_init_5 : uD prog_2_method_1_code 5 (.new 9) 3 8 := ⟨by decide +kernel, rfl⟩
theorem dCod_init_8 : uD prog_2_method_1_code 8 (.dup) 1 9 := ⟨by decide +kernel, rfl⟩
theorem dCod_init_9 : uD prog_2_method_1_code 9 (.bipush 100) 2 11 := ⟨by decide +kernel, rfl⟩
theorem dCod_init_11 : uD prog_2_method_1_code 11 (.invokespecial 11) 3 14 := ⟨by decide +kernel, rfl⟩
theorem dCod_init_14 : uD prog_2_method_1_code 14 (.putfield 14) 3 17 := ⟨by decide +kernel, rfl⟩
theorem dCod_init_17 : uD prog_2_method_1_code 17 (.aload_n 0) 1 18 := ⟨by decide +kernel, rfl⟩
theorem dCod_init_18 : uD prog_2_method_1_code 18 (.new 9) 3 21 := ⟨by decide +kernel, rfl⟩
theorem dCod_init_21 : uD prog_2_method_1_code 21 (.dup) 1 22 := ⟨by decide +kernel, rfl⟩
theorem dCod_init_22 : uD prog_2_method_1_code 22 (.bipush 100) 2 24 := ⟨by decide +kernel, rfl⟩
theorem dCod_init_24 : uD prog_2_method_1_code 24 (.invokespecial 11) 3 27 := ⟨by decide +kernel, rfl⟩
theorem dCod_init_27 : uD prog_2_method_1_code 27 (.putfield 20) 3 30 := ⟨by decide +kernel, rfl⟩
theorem dCod_init_30 : uD prog_2_method_1_code 30 (.aload_n 0) 1 31 := ⟨by decide +kernel, rfl⟩
theorem dCod_init_31 : uD prog_2_method_1_code 31 (.new 9) 3 34 := ⟨by decide +kernel, rfl⟩
theorem dCod_init_34 : uD prog_2_method_1_code 34 (.dup) 1 35 := ⟨by decide +kernel, rfl⟩
theorem dCod_init_35 : uD prog_2_method_1_code 35 (.bipush 100) 2 37 := ⟨by decide +kernel, rfl⟩
theorem dCod_init_37 : uD prog_2_method_1_code 37 (.invokespecial 11) 3 40 := ⟨by decide +kernel, rfl⟩
theorem dCod_init_40 : uD prog_2_method_1_code 40 (.putfield 23) 3 43 := ⟨by decide +kernel, rfl⟩
theorem dCod_init_43 : uD prog_2_method_1_code 43 (.aload_n 0) 1 44 := ⟨by decide +kernel, rfl⟩
theorem dCod_init_44 : uD prog_2_method_1_code 44 (.new 9) 3 47 := ⟨by decide +kernel, rfl⟩
theorem dCod_init_47 : uD prog_2_method_1_code 47 (.dup) 1 48 := ⟨by decide +kernel, rfl⟩
theorem dCod_init_48 : uD prog_2_method_1_code 48 (.bipush 100) 2 50 := ⟨by decide +kernel, rfl⟩
theorem dCod_init_50 : uD prog_2_method_1_code 50 (.invokespecial 11) 3 53 := ⟨by decide +kernel, rfl⟩
theorem dCod_init_53 : uD prog_2_method_1_code 53 (.putfield 26) 3 56 := ⟨by decide +kernel, rfl⟩
theorem dCod_init_56 : uD prog_2_method_1_code 56 (.return_) 1 57 := ⟨by decide +kernel, rfl⟩
theorem dCod_clear_0 : uD prog_2_method_2_code 0 (.aload_n 0) 1 1 := ⟨by decide +kernel, rfl⟩
theorem dCod_clear_1 : uD prog_2_method_2_code 1 (.getfield 14) 3 4 := ⟨by decide +kernel, rfl⟩
theorem dCod_clear_4 : uD prog_2_method_2_code 4 (.invokevirtual 29) 3 7 := ⟨by decide +kernel, rfl⟩
theorem dCod_clear_7 : uD prog_2_method_2_code 7 (.aload_n 0) 1 8 := ⟨by decide +kernel, rfl⟩
theorem dCod_clear_8 : uD prog_2_method_2_code 8 (.getfield 20) 3 11 := ⟨by decide +kernel, rfl⟩
theorem dCod_clear_11 : uD prog_2_method_2_code 11 (.invokevirtual 29) 3 14 := ⟨by decide +kernel, rfl⟩
theorem dCod_clear_14 : uD prog_2_method_2_code 14 (.aload_n 0) 1 15 := ⟨by decide +kernel, rfl⟩
theorem dCod_clear_15 : uD prog_2_method_2_code 15 (.getfield 23) 3 18 := ⟨by decide +kernel, rfl⟩
theorem dCod_clear_18 : uD prog_2_method_2_code 18 (.invokevirtual 29) 3 21 := ⟨by decide +kernel, rfl⟩
theorem dCod_clear_21 : uD prog_2_method_2_code 21 (.aload_n 0) 1 22 := ⟨by decide +kernel, rfl⟩
theorem dCod_clear_22 : uD prog_2_method_2_code 22 (.getfield 26) 3 25 := ⟨by decide +kernel, rfl⟩
theorem dCod_clear_25 : uD prog_2_method_2_code 25 (.invokevirtual 29) 3 28 := ⟨by decide +kernel, rfl⟩
theorem dCod_clear_28 : uD prog_2_method_2_code 28 (.return_) 1 29 := ⟨by decide +kernel, rfl⟩
theorem dCod_rowAt_0 : uD prog_2_method_3_code 0 (.iload_n 1) 1 1 := ⟨by decide +kernel, rfl⟩
theorem dCod_rowAt_1 : decode prog_2_method_3_code 1 = .ok (.tableswitch 42 0 2 #[27, 32, 37], 27) := by decide +kernel
theorem dCod_rowAt_28 : uD prog_2_method_3_code 28 (.aload_n 0) 1 29 := ⟨by decide +kernel, rfl⟩
theorem dCod_rowAt_29 : uD prog_2_method_3_code 29 (.getfield 14) 3 32 := ⟨by decide +kernel, rfl⟩
theorem dCod_rowAt_32 : uD prog_2_method_3_code 32 (.areturn) 1 33 := ⟨by decide +kernel, rfl⟩
theorem dCod_rowAt_33 : uD prog_2_method_3_code 33 (.aload_n 0) 1 34 := ⟨by decide +kernel, rfl⟩
theorem dCod_rowAt_34 : uD prog_2_method_3_code 34 (.getfield 20) 3 37 := ⟨by decide +kernel, rfl⟩
theorem dCod_rowAt_37 : uD prog_2_method_3_code 37 (.areturn) 1 38 := ⟨by decide +kernel, rfl⟩
theorem dCod_rowAt_38 : uD prog_2_method_3_code 38 (.aload_n 0) 1 39 := ⟨by decide +kernel, rfl⟩
theorem dCod_rowAt_39 : uD prog_2_method_3_code 39 (.getfield 23) 3 42 := ⟨by decide +kernel, rfl⟩
theorem dCod_rowAt_42 : uD prog_2_method_3_code 42 (.areturn) 1 43 := ⟨by decide +kernel, rfl⟩
theorem dCod_rowAt_43 : uD prog_2_method_3_code 43 (.aload_n 0) 1 44 := ⟨by decide +kernel, rfl⟩
theorem dCod_rowAt_44 : uD prog_2_method_3_code 44 (.getfield 26) 3 47 := ⟨by decide +kernel, rfl⟩
theorem dCod_rowAt_47 : uD prog_2_method_3_code 47 (.areturn) 1 48 := ⟨by decide +kernel, rfl⟩
theorem dCod_bitsOfRow_0 : uD prog_2_method_4_code 0 (.iload_n 1) 1 1 := ⟨by decide +kernel, rfl⟩
theorem dCod_bitsOfRow_1 : uB prog_2_method_4_code 1 (.ifCond .ne) 4 14 := ⟨13, by decide +kernel, rfl, by decide⟩
theorem dCod_bitsOfRow_4 : uD prog_2_method_4_code 4 (.aload_n 0) 1 5 := ⟨by decide +kernel, rfl⟩
theorem dCod_bitsOfRow_5 : uD prog_2_method_4_code 5 (.getfield 14) 3 8 := ⟨by decide +kernel, rfl⟩
theorem dCod_bitsOfRow_8 : uD prog_2_method_4_code 8 (.invokevirtual 32) 3 11 := ⟨by decide +kernel, rfl⟩
theorem dCod_bitsOfRow_11 : uD prog_2_method_4_code 11 (.iconst 2) 1 12 := ⟨by decide +kernel, rfl⟩
theorem dCod_bitsOfRow_12 : uD prog_2_method_4_code 12 (.imul) 1 13 := ⟨by decide +kernel, rfl⟩
theorem dCod_bitsOfRow_13 : uD prog_2_method_4_code 13 (.ireturn) 1 14 := ⟨by decide +kernel, rfl⟩
theorem dCod_bitsOfRow_14 : uD prog_2_method_4_code 14 (.aload_n 0) 1 15 := ⟨by decide +kernel, rfl⟩
theorem dCod_bitsOfRow_15 : uD prog_2_method_4_code 15 (.iload_n 1) 1 16 := ⟨by decide +kernel, rfl⟩
theorem dCod_bitsOfRow_16 : uD prog_2_method_4_code 16 (.invokevirtual 36) 3 19 := ⟨by decide +kernel, rfl⟩
theorem dCod_bitsOfRow_19 : uD prog_2_method_4_code 19 (.astore_n 2) 1 20 := ⟨by decide +kernel, rfl⟩
theorem dCod_bitsOfRow_20 : uD prog_2_method_4_code 20 (.iconst 0) 1 21 := ⟨by decide +kernel, rfl⟩
theorem dCod_bitsOfRow_21 : uD prog_2_method_4_code 21 (.istore_n 3) 1 22 := ⟨by decide +kernel, rfl⟩
theorem dCod_bitsOfRow_22 : uD prog_2_method_4_code 22 (.iconst 0) 1 23 := ⟨by decide +kernel, rfl⟩
theorem dCod_bitsOfRow_23 : uD prog_2_method_4_code 23 (.istore 4) 2 25 := ⟨by decide +kernel, rfl⟩
theorem dCod_bitsOfRow_25 : uD prog_2_method_4_code 25 (.iload 4) 2 27 := ⟨by decide +kernel, rfl⟩
theorem dCod_bitsOfRow_27 : uD prog_2_method_4_code 27 (.aload_n 2) 1 28 := ⟨by decide +kernel, rfl⟩
theorem dCod_bitsOfRow_28 : uD prog_2_method_4_code 28 (.invokevirtual 32) 3 31 := ⟨by decide +kernel, rfl⟩
theorem dCod_bitsOfRow_31 : uB prog_2_method_4_code 31 (.if_icmp .ge) 34 52 := ⟨21, by decide +kernel, rfl, by decide⟩
theorem dCod_bitsOfRow_34 : uD prog_2_method_4_code 34 (.iload_n 3) 1 35 := ⟨by decide +kernel, rfl⟩
theorem dCod_bitsOfRow_35 : uD prog_2_method_4_code 35 (.aload_n 2) 1 36 := ⟨by decide +kernel, rfl⟩
theorem dCod_bitsOfRow_36 : uD prog_2_method_4_code 36 (.iload 4) 2 38 := ⟨by decide +kernel, rfl⟩
theorem dCod_bitsOfRow_38 : uD prog_2_method_4_code 38 (.invokevirtual 40) 3 41 := ⟨by decide +kernel, rfl⟩
theorem dCod_bitsOfRow_41 : uD prog_2_method_4_code 41 (.invokestatic 44) 3 44 := ⟨by decide +kernel, rfl⟩
theorem dCod_bitsOfRow_44 : uD prog_2_method_4_code 44 (.iadd) 1 45 := ⟨by decide +kernel, rfl⟩
theorem dCod_bitsOfRow_45 : uD prog_2_method_4_code 45 (.istore_n 3) 1 46 := ⟨by decide +kernel, rfl⟩
theorem dCod_bitsOfRow_46 : uD prog_2_method_4_code 46 (.iinc 4 1) 3 49 := ⟨by decide +kernel, rfl⟩
theorem dCod_bitsOfRow_49 : uB prog_2_method_4_code 49 .goto 52 25 := ⟨-24, by decide +kernel, rfl, by decide⟩
theorem dCod_bitsOfRow_52 : uD prog_2_method_4_code 52 (.iload_n 3) 1 53 := ⟨by decide +kernel, rfl⟩
theorem dCod_bitsOfRow_53 : uD prog_2_method_4_code 53 (.ireturn) 1 54 := ⟨by decide +kernel, rfl⟩
theorem dCod_bitsOfAll_0 : uD prog_2_method_5_code 0 (.iconst 0) 1 1 := ⟨by decide +kernel, rfl⟩
theorem dCod_bitsOfAll_1 : uD prog_2_method_5_code 1 (.istore_n 1) 1 2 := ⟨by decide +kernel, rfl⟩
theorem dCod_bitsOfAll_2 : uD prog_2_method_5_code 2 (.iconst 0) 1 3 := ⟨by decide +kernel, rfl⟩
theorem dCod_bitsOfAll_3 : uD prog_2_method_5_code 3 (.istore_n 2) 1 4 := ⟨by decide +kernel, rfl⟩
theorem dCod_bitsOfAll_4 : uD prog_2_method_5_code 4 (.iload_n 2) 1 5 := ⟨by decide +kernel, rfl⟩
theorem dCod_bitsOfAll_5 : uD prog_2_method_5_code 5 (.iconst 4) 1 6 := ⟨by decide +kernel, rfl⟩
theorem dCod_bitsOfAll_6 : uB prog_2_method_5_code 6 (.if_icmp .ge) 9 23 := ⟨17, by decide +kernel, rfl, by decide⟩
theorem dCod_bitsOfAll_9 : uD prog_2_method_5_code 9 (.iload_n 1) 1 10 := ⟨by decide +kernel, rfl⟩
theorem dCod_bitsOfAll_10 : uD prog_2_method_5_code 10 (.aload_n 0) 1 11 := ⟨by decide +kernel, rfl⟩
theorem dCod_bitsOfAll_11 : uD prog_2_method_5_code 11 (.iload_n 2) 1 12 := ⟨by decide +kernel, rfl⟩
theorem dCod_bitsOfAll_12 : uD prog_2_method_5_code 12 (.invokevirtual 47) 3 15 := ⟨by decide +kernel, rfl⟩
theorem dCod_bitsOfAll_15 : uD prog_2_method_5_code 15 (.iadd) 1 16 := ⟨by decide +kernel, rfl⟩
theorem dCod_bitsOfAll_16 : uD prog_2_method_5_code 16 (.istore_n 1) 1 17 := ⟨by decide +kernel, rfl⟩
theorem dCod_bitsOfAll_17 : uD prog_2_method_5_code 17 (.iinc 2 1) 3 20 := ⟨by decide +kernel, rfl⟩
theorem dCod_bitsOfAll_20 : uB prog_2_method_5_code 20 .goto 23 4 := ⟨-16, by decide +kernel, rfl, by decide⟩
theorem dCod_bitsOfAll_23 : uD prog_2_method_5_code 23 (.iload_n 1) 1 24 := ⟨by decide +kernel, rfl⟩
theorem dCod_bitsOfAll_24 : uD prog_2_method_5_code 24 (.ireturn) 1 25 := ⟨by decide +kernel, rfl⟩
theorem dCod_bitsOfCode_0 : uD prog_2_method_6_code 0 (.iconst 1) 1 1 := ⟨by decide +kernel, rfl⟩
theorem dCod_bitsOfCode_1 : uD prog_2_method_6_code 1 (.istore_n 1) 1 2 := ⟨by decide +kernel, rfl⟩
theorem dCod_bitsOfCode_2 : uD prog_2_method_6_code 2 (.iload_n 0) 1 3 := ⟨by decide +kernel, rfl⟩
theorem dCod_bitsOfCode_3 : uD prog_2_method_6_code 3 (.iconst 1) 1 4 := ⟨by decide +kernel, rfl⟩
theorem dCod_bitsOfCode_4 : uD prog_2_method_6_code 4 (.iadd) 1 5 := ⟨by decide +kernel, rfl⟩
theorem dCod_bitsOfCode_5 : uD prog_2_method_6_code 5 (.istore_n 2) 1 6 := ⟨by decide +kernel, rfl⟩
theorem dCod_bitsOfCode_6 : uD prog_2_method_6_code 6 (.iload_n 2) 1 7 := ⟨by decide +kernel, rfl⟩
theorem dCod_bitsOfCode_7 : uD prog_2_method_6_code 7 (.iconst 1) 1 8 := ⟨by decide +kernel, rfl⟩
theorem dCod_bitsOfCode_8 : uB prog_2_method_6_code 8 (.if_icmp .le) 11 21 := ⟨13, by decide +kernel, rfl, by decide⟩
theorem dCod_bitsOfCode_11 : uD prog_2_method_6_code 11 (.iinc 1 2) 3 14 := ⟨by decide +kernel, rfl⟩
theorem dCod_bitsOfCode_14 : uD prog_2_method_6_code 14 (.iload_n 2) 1 15 := ⟨by decide +kernel, rfl⟩
theorem dCod_bitsOfCode_15 : uD prog_2_method_6_code 15 (.iconst 1) 1 16 := ⟨by decide +kernel, rfl⟩
theorem dCod_bitsOfCode_16 : uD prog_2_method_6_code 16 (.ishr) 1 17 := ⟨by decide +kernel, rfl⟩
theorem dCod_bitsOfCode_17 : uD prog_2_method_6_code 17 (.istore_n 2) 1 18 := ⟨by decide +kernel, rfl⟩
theorem dCod_bitsOfCode_18 : uB prog_2_method_6_code 18 .goto 21 6 := ⟨-12, by decide +kernel, rfl, by decide⟩
theorem dCod_bitsOfCode_21 : uD prog_2_method_6_code 21 (.iload_n 1) 1 22 := ⟨by decide +kernel, rfl⟩
theorem dCod_bitsOfCode_22 : uD prog_2_method_6_code 22 (.ireturn) 1 23 := ⟨by decide +kernel, rfl⟩
theorem dFrl_init_0 : uD prog_3_method_1_code 0 (.aload_n 0) 1 1 := ⟨by decide +kernel, rfl⟩
theorem dFrl_init_1 : uD prog_3_method_1_code 1 (.invokespecial 3) 3 4 := ⟨by decide +kernel, rfl⟩
theorem dFrl_init_4 : uD prog_3_method_1_code 4 (.aload_n 0) 1 5 := ⟨by decide +kernel, rfl⟩
theorem dFrl_init_5 : uD prog_3_method_1_code 5 (.iload_n 1) 1 6 := ⟨by decide +kernel, rfl⟩
theorem dFrl_init_6 : uD prog_3_method_1_code 6 (.iconst 0) 1 7 := ⟨by decide +kernel, rfl⟩
theorem dFrl_init_7 : uD prog_3_method_1_code 7 (.invokestatic 9) 3 10 := ⟨by decide +kernel, rfl⟩
theorem dFrl_init_10 : uD prog_3_method_1_code 10 (.newarray .long) 2 12 := ⟨by decide +kernel, rfl⟩
theorem dFrl_init_12 : uD prog_3_method_1_code 12 (.putfield 15) 3 15 := ⟨by decide +kernel, rfl⟩
theorem dFrl_init_15 : uD prog_3_method_1_code 15 (.return_) 1 16 := ⟨by decide +kernel, rfl⟩
theorem dFrl_size_0 : uD prog_3_method_2_code 0 (.aload_n 0) 1 1 := ⟨by decide +kernel, rfl⟩
theorem dFrl_size_1 : uD prog_3_method_2_code 1 (.getfield 21) 3 4 := ⟨by decide +kernel, rfl⟩
theorem dFrl_size_4 : uD prog_3_method_2_code 4 (.ireturn) 1 5 := ⟨by decide +kernel, rfl⟩
theorem dFrl_clear_0 : uD prog_3_method_3_code 0 (.aload_n 0) 1 1 := ⟨by decide +kernel, rfl⟩
theorem dFrl_clear_1 : uD prog_3_method_3_code 1 (.iconst 0) 1 2 := ⟨by decide +kernel, rfl⟩
theorem dFrl_clear_2 : uD prog_3_method_3_code 2 (.putfield 21) 3 5 := ⟨by decide +kernel, rfl⟩
theorem dFrl_clear_5 : uD prog_3_method_3_code 5 (.return_) 1 6 := ⟨by decide +kernel, rfl⟩
theorem dFrl_at_0 : uD prog_3_method_4_code 0 (.iload_n 1) 1 1 := ⟨by decide +kernel, rfl⟩
theorem dFrl_at_1 : uB prog_3_method_4_code 1 (.ifCond .lt) 4 30 := ⟨29, by decide +kernel, rfl, by decide⟩
theorem dFrl_at_4 : uD prog_3_method_4_code 4 (.iload_n 1) 1 5 := ⟨by decide +kernel, rfl⟩
theorem dFrl_at_5 : uD prog_3_method_4_code 5 (.aload_n 0) 1 6 := ⟨by decide +kernel, rfl⟩
theorem dFrl_at_6 : uD prog_3_method_4_code 6 (.getfield 21) 3 9 := ⟨by decide +kernel, rfl⟩
theorem dFrl_at_9 : uB prog_3_method_4_code 9 (.if_icmp .ge) 12 30 := ⟨21, by decide +kernel, rfl, by decide⟩
theorem dFrl_at_12 : uD prog_3_method_4_code 12 (.iload_n 1) 1 13 := ⟨by decide +kernel, rfl⟩
theorem dFrl_at_13 : uD prog_3_method_4_code 13 (.aload_n 0) 1 14 := ⟨by decide +kernel, rfl⟩
theorem dFrl_at_14 : uD prog_3_method_4_code 14 (.getfield 15) 3 17 := ⟨by decide +kernel, rfl⟩
theorem dFrl_at_17 : uD prog_3_method_4_code 17 (.arraylength) 1 18 := ⟨by decide +kernel, rfl⟩
theorem dFrl_at_18 : uB prog_3_method_4_code 18 (.if_icmp .ge) 21 30 := ⟨12, by decide +kernel, rfl, by decide⟩
theorem dFrl_at_21 : uD prog_3_method_4_code 21 (.aload_n 0) 1 22 := ⟨by decide +kernel, rfl⟩
theorem dFrl_at_22 : uD prog_3_method_4_code 22 (.getfield 15) 3 25 := ⟨by decide +kernel, rfl⟩
theorem dFrl_at_25 : uD prog_3_method_4_code 25 (.iload_n 1) 1 26 := ⟨by decide +kernel, rfl⟩
theorem dFrl_at_26 : uD prog_3_method_4_code 26 (.laload) 1 27 := ⟨by decide +kernel, rfl⟩
theorem dFrl_at_27 : uB prog_3_method_4_code 27 .goto 30 31 := ⟨4, by decide +kernel, rfl, by decide⟩
theorem dFrl_at_30 : uD prog_3_method_4_code 30 (.lconst 0) 1 31 := ⟨by decide +kernel, rfl⟩
theorem dFrl_at_31 : uD prog_3_method_4_code 31 (.lreturn) 1 32 := ⟨by decide +kernel, rfl⟩
theorem dFrl_placeOf_0 : uD prog_3_method_5_code 0 (.iconst 0) 1 1 := ⟨by decide +kernel, rfl⟩
theorem dFrl_placeOf_1 : uD prog_3_method_5_code 1 (.istore_n 3) 1 2 := ⟨by decide +kernel, rfl⟩
theorem dFrl_placeOf_2 : uD prog_3_method_5_code 2 (.iload_n 3) 1 3 := ⟨by decide +kernel, rfl⟩
theorem dFrl_placeOf_3 : uD prog_3_method_5_code 3 (.aload_n 0) 1 4 := ⟨by decide +kernel, rfl⟩
theorem dFrl_placeOf_4 : uD prog_3_method_5_code 4 (.getfield 21) 3 7 := ⟨by decide +kernel, rfl⟩
theorem dFrl_placeOf_7 : uB prog_3_method_5_code 7 (.if_icmp .ge) 10 38 := ⟨31, by decide +kernel, rfl, by decide⟩
theorem dFrl_placeOf_10 : uD prog_3_method_5_code 10 (.iload_n 3) 1 11 := ⟨by decide +kernel, rfl⟩
theorem dFrl_placeOf_11 : uD prog_3_method_5_code 11 (.aload_n 0) 1 12 := ⟨by decide +kernel, rfl⟩
theorem dFrl_placeOf_12 : uD prog_3_method_5_code 12 (.getfield 15) 3 15 := ⟨by decide +kernel, rfl⟩
theorem dFrl_placeOf_15 : uD prog_3_method_5_code 15 (.arraylength) 1 16 := ⟨by decide +kernel, rfl⟩
theorem dFrl_placeOf_16 : uB prog_3_method_5_code 16 (.if_icmp .ge) 19 38 := ⟨22, by decide +kernel, rfl, by decide⟩
theorem dFrl_placeOf_19 : uD prog_3_method_5_code 19 (.aload_n 0) 1 20 := ⟨by decide +kernel, rfl⟩
theorem dFrl_placeOf_20 : uD prog_3_method_5_code 20 (.getfield 15) 3 23 := ⟨by decide +kernel, rfl⟩
theorem dFrl_placeOf_23 : uD prog_3_method_5_code 23 (.iload_n 3) 1 24 := ⟨by decide +kernel, rfl⟩
theorem dFrl_placeOf_24 : uD prog_3_method_5_code 24 (.laload) 1 25 := ⟨by decide +kernel, rfl⟩
theorem dFrl_placeOf_25 : uD prog_3_method_5_code 25 (.lload_n 1) 1 26 := ⟨by decide +kernel, rfl⟩
theorem dFrl_placeOf_26 : uD prog_3_method_5_code 26 (.lcmp) 1 27 := ⟨by decide +kernel, rfl⟩
theorem dFrl_placeOf_27 : uB prog_3_method_5_code 27 (.ifCond .ne) 30 32 := ⟨5, by decide +kernel, rfl, by decide⟩
theorem dFrl_placeOf_30 : uD prog_3_method_5_code 30 (.iload_n 3) 1 31 := ⟨by decide +kernel, rfl⟩
theorem dFrl_placeOf_31 : uD prog_3_method_5_code 31 (.ireturn) 1 32 := ⟨by decide +kernel, rfl⟩
theorem dFrl_placeOf_32 : uD prog_3_method_5_code 32 (.iinc 3 1) 3 35 := ⟨by decide +kernel, rfl⟩
theorem dFrl_placeOf_35 : uB prog_3_method_5_code 35 .goto 38 2 := ⟨-33, by decide +kernel, rfl, by decide⟩
theorem dFrl_placeOf_38 : uD prog_3_method_5_code 38 (.iconst (-1)) 1 39 := ⟨by decide +kernel, rfl⟩
theorem dFrl_placeOf_39 : uD prog_3_method_5_code 39 (.ireturn) 1 40 := ⟨by decide +kernel, rfl⟩
theorem dFrl_meet_0 : uD prog_3_method_6_code 0 (.aload_n 0) 1 1 := ⟨by decide +kernel, rfl⟩
theorem dFrl_meet_1 : uD prog_3_method_6_code 1 (.lload_n 1) 1 2 := ⟨by decide +kernel, rfl⟩
theorem dFrl_meet_2 : uD prog_3_method_6_code 2 (.invokevirtual 25) 3 5 := ⟨by decide +kernel, rfl⟩
theorem dFrl_meet_5 : uD prog_3_method_6_code 5 (.istore_n 3) 1 6 := ⟨by decide +kernel, rfl⟩
theorem dFrl_meet_6 : uD prog_3_method_6_code 6 (.iload_n 3) 1 7 := ⟨by decide +kernel, rfl⟩
theorem dFrl_meet_7 : uD prog_3_method_6_code 7 (.iconst (-1)) 1 8 := ⟨by decide +kernel, rfl⟩
theorem dFrl_meet_8 : uB prog_3_method_6_code 8 (.if_icmp .ne) 11 16 := ⟨8, by decide +kernel, rfl, by decide⟩
theorem dFrl_meet_11 : uD prog_3_method_6_code 11 (.aload_n 0) 1 12 := ⟨by decide +kernel, rfl⟩
theorem dFrl_meet_12 : uD prog_3_method_6_code 12 (.getfield 21) 3 15 := ⟨by decide +kernel, rfl⟩
theorem dFrl_meet_15 : uD prog_3_method_6_code 15 (.istore_n 3) 1 16 := ⟨by decide +kernel, rfl⟩
theorem dFrl_meet_16 : uD prog_3_method_6_code 16 (.iload_n 3) 1 17 := ⟨by decide +kernel, rfl⟩
theorem dFrl_meet_17 : uB prog_3_method_6_code 17 (.ifCond .lt) 20 29 := ⟨12, by decide +kernel, rfl, by decide⟩
theorem dFrl_meet_20 : uD prog_3_method_6_code 20 (.iload_n 3) 1 21 := ⟨by decide +kernel, rfl⟩
theorem dFrl_meet_21 : uD prog_3_method_6_code 21 (.aload_n 0) 1 22 := ⟨by decide +kernel, rfl⟩
theorem dFrl_meet_22 : uD prog_3_method_6_code 22 (.getfield 15) 3 25 := ⟨by decide +kernel, rfl⟩
theorem dFrl_meet_25 : uD prog_3_method_6_code 25 (.arraylength) 1 26 := ⟨by decide +kernel, rfl⟩
theorem dFrl_meet_26 : uB prog_3_method_6_code 26 (.if_icmp .lt) 29 30 := ⟨4, by decide +kernel, rfl, by decide⟩
theorem dFrl_meet_29 : uD prog_3_method_6_code 29 (.return_) 1 30 := ⟨by decide +kernel, rfl⟩
theorem dFrl_meet_30 : uD prog_3_method_6_code 30 (.iload_n 3) 1 31 := ⟨by decide +kernel, rfl⟩
theorem dFrl_meet_31 : uD prog_3_method_6_code 31 (.aload_n 0) 1 32 := ⟨by decide +kernel, rfl⟩
theorem dFrl_meet_32 : uD prog_3_method_6_code 32 (.getfield 21) 3 35 := ⟨by decide +kernel, rfl⟩
theorem dFrl_meet_35 : uB prog_3_method_6_code 35 (.if_icmp .ne) 38 48 := ⟨13, by decide +kernel, rfl, by decide⟩
theorem dFrl_meet_38 : uD prog_3_method_6_code 38 (.aload_n 0) 1 39 := ⟨by decide +kernel, rfl⟩
theorem dFrl_meet_39 : uD prog_3_method_6_code 39 (.dup) 1 40 := ⟨by decide +kernel, rfl⟩
theorem dFrl_meet_40 : uD prog_3_method_6_code 40 (.getfield 21) 3 43 := ⟨by decide +kernel, rfl⟩
theorem dFrl_meet_43 : uD prog_3_method_6_code 43 (.iconst 1) 1 44 := ⟨by decide +kernel, rfl⟩
theorem dFrl_meet_44 : uD prog_3_method_6_code 44 (.iadd) 1 45 := ⟨by decide +kernel, rfl⟩
theorem dFrl_meet_45 : uD prog_3_method_6_code 45 (.putfield 21) 3 48 := ⟨by decide +kernel, rfl⟩
theorem dFrl_meet_48 : uD prog_3_method_6_code 48 (.iload_n 3) 1 49 := ⟨by decide +kernel, rfl⟩
theorem dFrl_meet_49 : uD prog_3_method_6_code 49 (.istore 4) 2 51 := ⟨by decide +kernel, rfl⟩
theorem dFrl_meet_51 : uD prog_3_method_6_code 51 (.iload 4) 2 53 := ⟨by decide +kernel, rfl⟩
theorem dFrl_meet_53 : uB prog_3_method_6_code 53 (.ifCond .le) 56 78 := ⟨25, by decide +kernel, rfl, by decide⟩
theorem dFrl_meet_56 : uD prog_3_method_6_code 56 (.aload_n 0) 1 57 := ⟨by decide +kernel, rfl⟩
theorem dFrl_meet_57 : uD prog_3_method_6_code 57 (.getfield 15) 3 60 := ⟨by decide +kernel, rfl⟩
theorem dFrl_meet_60 : uD prog_3_method_6_code 60 (.iload 4) 2 62 := ⟨by decide +kernel, rfl⟩
theorem dFrl_meet_62 : uD prog_3_method_6_code 62 (.aload_n 0) 1 63 := ⟨by decide +kernel, rfl⟩
theorem dFrl_meet_63 : uD prog_3_method_6_code 63 (.getfield 15) 3 66 := ⟨by decide +kernel, rfl⟩
theorem dFrl_meet_66 : uD prog_3_method_6_code 66 (.iload 4) 2 68 := ⟨by decide +kernel, rfl⟩
theorem dFrl_meet_68 : uD prog_3_method_6_code 68 (.iconst 1) 1 69 := ⟨by decide +kernel, rfl⟩
theorem dFrl_meet_69 : uD prog_3_method_6_code 69 (.isub) 1 70 := ⟨by decide +kernel, rfl⟩
theorem dFrl_meet_70 : uD prog_3_method_6_code 70 (.laload) 1 71 := ⟨by decide +kernel, rfl⟩
theorem dFrl_meet_71 : uD prog_3_method_6_code 71 (.lastore) 1 72 := ⟨by decide +kernel, rfl⟩
theorem dFrl_meet_72 : uD prog_3_method_6_code 72 (.iinc 4 (-1)) 3 75 := ⟨by decide +kernel, rfl⟩
theorem dFrl_meet_75 : uB prog_3_method_6_code 75 .goto 78 51 := ⟨-24, by decide +kernel, rfl, by decide⟩
theorem dFrl_meet_78 : uD prog_3_method_6_code 78 (.aload_n 0) 1 79 := ⟨by decide +kernel, rfl⟩
theorem dFrl_meet_79 : uD prog_3_method_6_code 79 (.getfield 15) 3 82 := ⟨by decide +kernel, rfl⟩
theorem dFrl_meet_82 : uD prog_3_method_6_code 82 (.iconst 0) 1 83 := ⟨by decide +kernel, rfl⟩
theorem dFrl_meet_83 : uD prog_3_method_6_code 83 (.lload_n 1) 1 84 := ⟨by decide +kernel, rfl⟩
theorem dFrl_meet_84 : uD prog_3_method_6_code 84 (.lastore) 1 85 := ⟨by decide +kernel, rfl⟩
theorem dFrl_meet_85 : uD prog_3_method_6_code 85 (.return_) 1 86 := ⟨by decide +kernel, rfl⟩
theorem dKno_init_0 : uD prog_4_method_1_code 0 (.aload_n 0) 1 1 := ⟨by decide +kernel, rfl⟩
theorem dKno_init_1 : uD prog_4_method_1_code 1 (.invokespecial 3) 3 4 := ⟨by decide +kernel, rfl⟩
theorem dKno_init_4 : uD prog_4_method_1_code 4 (.aload_n 0) 1 5 := ⟨by decide +kernel, rfl⟩
theorem dKno_init_5 : uD prog_4_method_1_code 5 (.bipush 7) 2 7 := ⟨by decide +kernel, rfl⟩
theorem dKno_init_7 : uD prog_4_method_1_code 7 (.anewarray 9) 3 10 := ⟨by decide +kernel, rfl⟩
theorem dKno_init_10 : uD prog_4_method_1_code 10 (.putfield 11) 3 13 := ⟨by decide +kernel, rfl⟩
theorem dKno_init_13 : uD prog_4_method_1_code 13 (.aload_n 0) 1 14 := ⟨by decide +kernel, rfl⟩
theorem dKno_init_14 : uD prog_4_method_1_code 14 (.new 9) 3 17 := ⟨by decide +kernel, rfl⟩
theorem dKno_init_17 : uD prog_4_method_1_code 17 (.dup) 1 18 := ⟨by decide +kernel, rfl⟩
theorem dKno_init_18 : uD prog_4_method_1_code 18 (.sipush 238) 3 21 := ⟨by decide +kernel, rfl⟩
theorem dKno_init_21 : uD prog_4_method_1_code 21 (.invokespecial 17) 3 24 := ⟨by decide +kernel, rfl⟩
theorem dKno_init_24 : uD prog_4_method_1_code 24 (.putfield 20) 3 27 := ⟨by decide +kernel, rfl⟩
theorem dKno_init_27 : uD prog_4_method_1_code 27 (.aload_n 0) 1 28 := ⟨by decide +kernel, rfl⟩
theorem dKno_init_28 : uD prog_4_method_1_code 28 (.new 24) 3 31 := ⟨by decide +kernel, rfl⟩
theorem dKno_init_31 : uD prog_4_method_1_code 31 (.dup) 1 32 := ⟨by decide +kernel, rfl⟩
theorem dKno_init_32 : uD prog_4_method_1_code 32 (.bipush 6) 2 34 := ⟨by decide +kernel, rfl⟩
theorem dKno_init_34 : uD prog_4_method_1_code 34 (.invokespecial 26) 3 37 := ⟨by decide +kernel, rfl⟩
theorem dKno_init_37 : uD prog_4_method_1_code 37 (.putfield 27) 3 40 := ⟨by decide +kernel, rfl⟩
theorem dKno_init_40 : uD prog_4_method_1_code 40 (.aload_n 0) 1 41 := ⟨by decide +kernel, rfl⟩
theorem dKno_init_41 : uD prog_4_method_1_code 41 (.new 24) 3 44 := ⟨by decide +kernel, rfl⟩
theorem dKno_init_44 : uD prog_4_method_1_code 44 (.dup) 1 45 := ⟨by decide +kernel, rfl⟩
theorem dKno_init_45 : uD prog_4_method_1_code 45 (.bipush 24) 2 47 := ⟨by decide +kernel, rfl⟩
theorem dKno_init_47 : uD prog_4_method_1_code 47 (.invokespecial 26) 3 50 := ⟨by decide +kernel, rfl⟩
theorem dKno_init_50 : uD prog_4_method_1_code 50 (.putfield 31) 3 53 := ⟨by decide +kernel, rfl⟩
theorem dKno_init_53 : uD prog_4_method_1_code 53 (.iconst 0) 1 54 := ⟨by decide +kernel, rfl⟩
theorem dKno_init_54 : uD prog_4_method_1_code 54 (.istore_n 1) 1 55 := ⟨by decide +kernel, rfl⟩
theorem dKno_init_55 : uD prog_4_method_1_code 55 (.iload_n 1) 1 56 := ⟨by decide +kernel, rfl⟩
theorem dKno_init_56 : uD prog_4_method_1_code 56 (.aload_n 0) 1 57 := ⟨by decide +kernel, rfl⟩
theorem dKno_init_57 : uD prog_4_method_1_code 57 (.getfield 11) 3 60 := ⟨by decide +kernel, rfl⟩
theorem dKno_init_60 : uD prog_4_method_1_code 60 (.arraylength) 1 61 := ⟨by decide +kernel, rfl⟩
theorem dKno_init_61 : uB prog_4_method_1_code 61 (.if_icmp .ge) 64 85 := ⟨24, by decide +kernel, rfl, by decide⟩
theorem dKno_init_64 : uD prog_4_method_1_code 64 (.aload_n 0) 1 65 := ⟨by decide +kernel, rfl⟩
theorem dKno_init_65 : uD prog_4_method_1_code 65 (.getfield 11) 3 68 := ⟨by decide +kernel, rfl⟩
theorem dKno_init_68 : uD prog_4_method_1_code 68 (.iload_n 1) 1 69 := ⟨by decide +kernel, rfl⟩
theorem dKno_init_69 : uD prog_4_method_1_code 69 (.new 9) 3 72 := ⟨by decide +kernel, rfl⟩
theorem dKno_init_72 : uD prog_4_method_1_code 72 (.dup) 1 73 := ⟨by decide +kernel, rfl⟩
theorem dKno_init_73 : uD prog_4_method_1_code 73 (.bipush 6) 2 75 := ⟨by decide +kernel, rfl⟩
theorem dKno_init_75 : uD prog_4_method_1_code 75 (.invokespecial 17) 3 78 := ⟨by decide +kernel, rfl⟩
theorem dKno_init_78 : uD prog_4_method_1_code 78 (.aastore) 1 79 := ⟨by decide +kernel, rfl⟩
theorem dKno_init_79 : uD prog_4_method_1_code 79 (.iinc 1 1) 3 82 := ⟨by decide +kernel, rfl⟩
theorem dKno_init_82 : uB prog_4_method_1_code 82 .goto 85 55 := ⟨-27, by decide +kernel, rfl, by decide⟩
theorem dKno_init_85 : uD prog_4_method_1_code 85 (.aload_n 0) 1 86 := ⟨by decide +kernel, rfl⟩
theorem dKno_init_86 : uD prog_4_method_1_code 86 (.getfield 27) 3 89 := ⟨by decide +kernel, rfl⟩
theorem dKno_init_89 : uD prog_4_method_1_code 89 (.iconst 0) 1 90 := ⟨by decide +kernel, rfl⟩
theorem dKno_init_90 : uD prog_4_method_1_code 90 (.invokevirtual 34) 3 93 := ⟨by decide +kernel, rfl⟩
theorem dKno_init_93 : uD prog_4_method_1_code 93 (.aload_n 0) 1 94 := ⟨by decide +kernel, rfl⟩
theorem dKno_init_94 : uD prog_4_method_1_code 94 (.getfield 31) 3 97 := ⟨by decide +kernel, rfl⟩
theorem dKno_init_97 : uD prog_4_method_1_code 97 (.iconst (-1)) 1 98 := ⟨by decide +kernel, rfl⟩
theorem dKno_init_98 : uD prog_4_method_1_code 98 (.invokevirtual 34) 3 101 := ⟨by decide +kernel, rfl⟩
theorem dKno_init_101 : uD prog_4_method_1_code 101 (.return_) 1 102 := ⟨by decide +kernel, rfl⟩
theorem dKno_forget_0 : uD prog_4_method_2_code 0 (.iconst 0) 1 1 := ⟨by decide +kernel, rfl⟩
theorem dKno_forget_1 : uD prog_4_method_2_code 1 (.istore_n 1) 1 2 := ⟨by decide +kernel, rfl⟩
theorem dKno_forget_2 : uD prog_4_method_2_code 2 (.iload_n 1) 1 3 := ⟨by decide +kernel, rfl⟩
theorem dKno_forget_3 : uD prog_4_method_2_code 3 (.aload_n 0) 1 4 := ⟨by decide +kernel, rfl⟩
theorem dKno_forget_4 : uD prog_4_method_2_code 4 (.getfield 11) 3 7 := ⟨by decide +kernel, rfl⟩
theorem dKno_forget_7 : uD prog_4_method_2_code 7 (.arraylength) 1 8 := ⟨by decide +kernel, rfl⟩
theorem dKno_forget_8 : uB prog_4_method_2_code 8 (.if_icmp .ge) 11 26 := ⟨18, by decide +kernel, rfl, by decide⟩
theorem dKno_forget_11 : uD prog_4_method_2_code 11 (.aload_n 0) 1 12 := ⟨by decide +kernel, rfl⟩
theorem dKno_forget_12 : uD prog_4_method_2_code 12 (.getfield 11) 3 15 := ⟨by decide +kernel, rfl⟩
theorem dKno_forget_15 : uD prog_4_method_2_code 15 (.iload_n 1) 1 16 := ⟨by decide +kernel, rfl⟩
theorem dKno_forget_16 : uD prog_4_method_2_code 16 (.aaload) 1 17 := ⟨by decide +kernel, rfl⟩
theorem dKno_forget_17 : uD prog_4_method_2_code 17 (.invokevirtual 37) 3 20 := ⟨by decide +kernel, rfl⟩
theorem dKno_forget_20 : uD prog_4_method_2_code 20 (.iinc 1 1) 3 23 := ⟨by decide +kernel, rfl⟩
theorem dKno_forget_23 : uB prog_4_method_2_code 23 .goto 26 2 := ⟨-21, by decide +kernel, rfl, by decide⟩
theorem dKno_forget_26 : uD prog_4_method_2_code 26 (.aload_n 0) 1 27 := ⟨by decide +kernel, rfl⟩
theorem dKno_forget_27 : uD prog_4_method_2_code 27 (.getfield 20) 3 30 := ⟨by decide +kernel, rfl⟩
theorem dKno_forget_30 : uD prog_4_method_2_code 30 (.invokevirtual 37) 3 33 := ⟨by decide +kernel, rfl⟩
theorem dKno_forget_33 : uD prog_4_method_2_code 33 (.aload_n 0) 1 34 := ⟨by decide +kernel, rfl⟩
theorem dKno_forget_34 : uD prog_4_method_2_code 34 (.getfield 27) 3 37 := ⟨by decide +kernel, rfl⟩
theorem dKno_forget_37 : uD prog_4_method_2_code 37 (.iconst 0) 1 38 := ⟨by decide +kernel, rfl⟩
theorem dKno_forget_38 : uD prog_4_method_2_code 38 (.invokevirtual 34) 3 41 := ⟨by decide +kernel, rfl⟩
theorem dKno_forget_41 : uD prog_4_method_2_code 41 (.aload_n 0) 1 42 := ⟨by decide +kernel, rfl⟩
theorem dKno_forget_42 : uD prog_4_method_2_code 42 (.getfield 31) 3 45 := ⟨by decide +kernel, rfl⟩
theorem dKno_forget_45 : uD prog_4_method_2_code 45 (.iconst (-1)) 1 46 := ⟨by decide +kernel, rfl⟩
theorem dKno_forget_46 : uD prog_4_method_2_code 46 (.invokevirtual 34) 3 49 := ⟨by decide +kernel, rfl⟩
theorem dKno_forget_49 : uD prog_4_method_2_code 49 (.return_) 1 50 := ⟨by decide +kernel, rfl⟩
theorem dKno_namesIn_0 : uD prog_4_method_3_code 0 (.aload_n 0) 1 1 := ⟨by decide +kernel, rfl⟩
theorem dKno_namesIn_1 : uD prog_4_method_3_code 1 (.getfield 11) 3 4 := ⟨by decide +kernel, rfl⟩
theorem dKno_namesIn_4 : uD prog_4_method_3_code 4 (.iload_n 1) 1 5 := ⟨by decide +kernel, rfl⟩
theorem dKno_namesIn_5 : uB prog_4_method_3_code 5 (.ifCond .lt) 8 21 := ⟨16, by decide +kernel, rfl, by decide⟩
theorem dKno_namesIn_8 : uD prog_4_method_3_code 8 (.iload_n 1) 1 9 := ⟨by decide +kernel, rfl⟩
theorem dKno_namesIn_9 : uD prog_4_method_3_code 9 (.aload_n 0) 1 10 := ⟨by decide +kernel, rfl⟩
theorem dKno_namesIn_10 : uD prog_4_method_3_code 10 (.getfield 11) 3 13 := ⟨by decide +kernel, rfl⟩
theorem dKno_namesIn_13 : uD prog_4_method_3_code 13 (.arraylength) 1 14 := ⟨by decide +kernel, rfl⟩
theorem dKno_namesIn_14 : uB prog_4_method_3_code 14 (.if_icmp .ge) 17 21 := ⟨7, by decide +kernel, rfl, by decide⟩
theorem dKno_namesIn_17 : uD prog_4_method_3_code 17 (.iload_n 1) 1 18 := ⟨by decide +kernel, rfl⟩
theorem dKno_namesIn_18 : uB prog_4_method_3_code 18 .goto 21 28 := ⟨10, by decide +kernel, rfl, by decide⟩
theorem dKno_namesIn_21 : uD prog_4_method_3_code 21 (.aload_n 0) 1 22 := ⟨by decide +kernel, rfl⟩
theorem dKno_namesIn_22 : uD prog_4_method_3_code 22 (.getfield 11) 3 25 := ⟨by decide +kernel, rfl⟩
theorem dKno_namesIn_25 : uD prog_4_method_3_code 25 (.arraylength) 1 26 := ⟨by decide +kernel, rfl⟩
theorem dKno_namesIn_26 : uD prog_4_method_3_code 26 (.iconst 1) 1 27 := ⟨by decide +kernel, rfl⟩
theorem dKno_namesIn_27 : uD prog_4_method_3_code 27 (.isub) 1 28 := ⟨by decide +kernel, rfl⟩
theorem dKno_namesIn_28 : uD prog_4_method_3_code 28 (.aaload) 1 29 := ⟨by decide +kernel, rfl⟩
theorem dKno_namesIn_29 : uD prog_4_method_3_code 29 (.areturn) 1 30 := ⟨by decide +kernel, rfl⟩
theorem dKno_valueOf_0 : uD prog_4_method_4_code 0 (.aload_n 0) 1 1 := ⟨by decide +kernel, rfl⟩
theorem dKno_valueOf_1 : uD prog_4_method_4_code 1 (.getfield 31) 3 4 := ⟨by decide +kernel, rfl⟩
theorem dKno_valueOf_4 : uD prog_4_method_4_code 4 (.iload_n 1) 1 5 := ⟨by decide +kernel, rfl⟩
theorem dKno_valueOf_5 : uD prog_4_method_4_code 5 (.iconst 4) 1 6 := ⟨by decide +kernel, rfl⟩
theorem dKno_valueOf_6 : uD prog_4_method_4_code 6 (.imul) 1 7 := ⟨by decide +kernel, rfl⟩
theorem dKno_valueOf_7 : uD prog_4_method_4_code 7 (.iload_n 2) 1 8 := ⟨by decide +kernel, rfl⟩
theorem dKno_valueOf_8 : uD prog_4_method_4_code 8 (.iadd) 1 9 := ⟨by decide +kernel, rfl⟩
theorem dKno_valueOf_9 : uD prog_4_method_4_code 9 (.invokevirtual 40) 3 12 := ⟨by decide +kernel, rfl⟩
theorem dKno_valueOf_12 : uD prog_4_method_4_code 12 (.ireturn) 1 13 := ⟨by decide +kernel, rfl⟩
theorem dKno_take_0 : uD prog_4_method_5_code 0 (.aload_n 2) 1 1 := ⟨by decide +kernel, rfl⟩
theorem dKno_take_1 : uD prog_4_method_5_code 1 (.invokevirtual 44) 3 4 := ⟨by decide +kernel, rfl⟩
theorem dKno_take_4 : uD prog_4_method_5_code 4 (.aload_n 2) 1 5 := ⟨by decide +kernel, rfl⟩
theorem dKno_take_5 : uD prog_4_method_5_code 5 (.getfield 47) 3 8 := ⟨by decide +kernel, rfl⟩
theorem dKno_take_8 : uD prog_4_method_5_code 8 (.aload_n 1) 1 9 := ⟨by decide +kernel, rfl⟩
theorem dKno_take_9 : uD prog_4_method_5_code 9 (.getfield 50) 3 12 := ⟨by decide +kernel, rfl⟩
theorem dKno_take_12 : uD prog_4_method_5_code 12 (.invokevirtual 53) 3 15 := ⟨by decide +kernel, rfl⟩
theorem dKno_take_15 : uD prog_4_method_5_code 15 (.iconst 0) 1 16 := ⟨by decide +kernel, rfl⟩
theorem dKno_take_16 : uD prog_4_method_5_code 16 (.istore_n 3) 1 17 := ⟨by decide +kernel, rfl⟩
theorem dKno_take_17 : uD prog_4_method_5_code 17 (.iload_n 3) 1 18 := ⟨by decide +kernel, rfl⟩
theorem dKno_take_18 : uD prog_4_method_5_code 18 (.aload_n 1) 1 19 := ⟨by decide +kernel, rfl⟩
theorem dKno_take_19 : uD prog_4_method_5_code 19 (.getfield 57) 3 22 := ⟨by decide +kernel, rfl⟩
theorem dKno_take_22 : uD prog_4_method_5_code 22 (.invokevirtual 60) 3 25 := ⟨by decide +kernel, rfl⟩
theorem dKno_take_25 : uB prog_4_method_5_code 25 (.if_icmp .ge) 28 54 := ⟨29, by decide +kernel, rfl, by decide⟩
theorem dKno_take_28 : uD prog_4_method_5_code 28 (.aload_n 0) 1 29 := ⟨by decide +kernel, rfl⟩
theorem dKno_take_29 : uD prog_4_method_5_code 29 (.aload_n 1) 1 30 := ⟨by decide +kernel, rfl⟩
theorem dKno_take_30 : uD prog_4_method_5_code 30 (.iload_n 3) 1 31 := ⟨by decide +kernel, rfl⟩
theorem dKno_take_31 : uD prog_4_method_5_code 31 (.aload_n 2) 1 32 := ⟨by decide +kernel, rfl⟩
theorem dKno_take_32 : uD prog_4_method_5_code 32 (.getfield 64) 3 35 := ⟨by decide +kernel, rfl⟩
theorem dKno_take_35 : uD prog_4_method_5_code 35 (.invokevirtual 66) 3 38 := ⟨by decide +kernel, rfl⟩
theorem dKno_take_38 : uD prog_4_method_5_code 38 (.aload_n 0) 1 39 := ⟨by decide +kernel, rfl⟩
theorem dKno_take_39 : uD prog_4_method_5_code 39 (.aload_n 1) 1 40 := ⟨by decide +kernel, rfl⟩
theorem dKno_take_40 : uD prog_4_method_5_code 40 (.iload_n 3) 1 41 := ⟨by decide +kernel, rfl⟩
theorem dKno_take_41 : uD prog_4_method_5_code 41 (.aload_n 2) 1 42 := ⟨by decide +kernel, rfl⟩
theorem dKno_take_42 : uD prog_4_method_5_code 42 (.getfield 70) 3 45 := ⟨by decide +kernel, rfl⟩
theorem dKno_take_45 : uD prog_4_method_5_code 45 (.invokevirtual 73) 3 48 := ⟨by decide +kernel, rfl⟩
theorem dKno_take_48 : uD prog_4_method_5_code 48 (.iinc 3 1) 3 51 := ⟨by decide +kernel, rfl⟩
theorem dKno_take_51 : uB prog_4_method_5_code 51 .goto 54 17 := ⟨-34, by decide +kernel, rfl, by decide⟩
theorem dKno_take_54 : uD prog_4_method_5_code 54 (.iconst 0) 1 55 := ⟨by decide +kernel, rfl⟩
theorem dKno_take_55 : uD prog_4_method_5_code 55 (.istore_n 3) 1 56 := ⟨by decide +kernel, rfl⟩
theorem dKno_take_56 : uD prog_4_method_5_code 56 (.iload_n 3) 1 57 := ⟨by decide +kernel, rfl⟩
theorem dKno_take_57 : uD prog_4_method_5_code 57 (.aload_n 1) 1 58 := ⟨by decide +kernel, rfl⟩
theorem dKno_take_58 : uD prog_4_method_5_code 58 (.getfield 76) 3 61 := ⟨by decide +kernel, rfl⟩
theorem dKno_take_61 : uD prog_4_method_5_code 61 (.invokevirtual 60) 3 64 := ⟨by decide +kernel, rfl⟩
theorem dKno_take_64 : uB prog_4_method_5_code 64 (.if_icmp .ge) 67 83 := ⟨19, by decide +kernel, rfl, by decide⟩
theorem dKno_take_67 : uD prog_4_method_5_code 67 (.aload_n 0) 1 68 := ⟨by decide +kernel, rfl⟩
theorem dKno_take_68 : uD prog_4_method_5_code 68 (.aload_n 1) 1 69 := ⟨by decide +kernel, rfl⟩
theorem dKno_take_69 : uD prog_4_method_5_code 69 (.iload_n 3) 1 70 := ⟨by decide +kernel, rfl⟩
theorem dKno_take_70 : uD prog_4_method_5_code 70 (.aload_n 2) 1 71 := ⟨by decide +kernel, rfl⟩
theorem dKno_take_71 : uD prog_4_method_5_code 71 (.getfield 79) 3 74 := ⟨by decide +kernel, rfl⟩
theorem dKno_take_74 : uD prog_4_method_5_code 74 (.invokevirtual 81) 3 77 := ⟨by decide +kernel, rfl⟩
theorem dKno_take_77 : uD prog_4_method_5_code 77 (.iinc 3 1) 3 80 := ⟨by decide +kernel, rfl⟩
theorem dKno_take_80 : uB prog_4_method_5_code 80 .goto 83 56 := ⟨-24, by decide +kernel, rfl, by decide⟩
theorem dKno_take_83 : uD prog_4_method_5_code 83 (.return_) 1 84 := ⟨by decide +kernel, rfl⟩
theorem dKno_takeName_0 : uD prog_4_method_6_code 0 (.aload_n 1) 1 1 := ⟨by decide +kernel, rfl⟩
theorem dKno_takeName_1 : uD prog_4_method_6_code 1 (.getfield 84) 3 4 := ⟨by decide +kernel, rfl⟩
theorem dKno_takeName_4 : uD prog_4_method_6_code 4 (.iload_n 2) 1 5 := ⟨by decide +kernel, rfl⟩
theorem dKno_takeName_5 : uD prog_4_method_6_code 5 (.invokevirtual 40) 3 8 := ⟨by decide +kernel, rfl⟩
theorem dKno_takeName_8 : uD prog_4_method_6_code 8 (.istore 4) 2 10 := ⟨by decide +kernel, rfl⟩
theorem dKno_takeName_10 : uD prog_4_method_6_code 10 (.aload_n 0) 1 11 := ⟨by decide +kernel, rfl⟩
theorem dKno_takeName_11 : uD prog_4_method_6_code 11 (.iload 4) 2 13 := ⟨by decide +kernel, rfl⟩
theorem dKno_takeName_13 : uD prog_4_method_6_code 13 (.iconst (-1)) 1 14 := ⟨by decide +kernel, rfl⟩
theorem dKno_takeName_14 : uB prog_4_method_6_code 14 (.if_icmp .ne) 17 22 := ⟨8, by decide +kernel, rfl, by decide⟩
theorem dKno_takeName_17 : uD prog_4_method_6_code 17 (.bipush 6) 2 19 := ⟨by decide +kernel, rfl⟩
theorem dKno_takeName_19 : uB prog_4_method_6_code 19 .goto 22 31 := ⟨12, by decide +kernel, rfl, by decide⟩
theorem dKno_takeName_22 : uD prog_4_method_6_code 22 (.aload_n 1) 1 23 := ⟨by decide +kernel, rfl⟩
theorem dKno_takeName_23 : uD prog_4_method_6_code 23 (.getfield 57) 3 26 := ⟨by decide +kernel, rfl⟩
theorem dKno_takeName_26 : uD prog_4_method_6_code 26 (.iload 4) 2 28 := ⟨by decide +kernel, rfl⟩
theorem dKno_takeName_28 : uD prog_4_method_6_code 28 (.invokevirtual 40) 3 31 := ⟨by decide +kernel, rfl⟩
theorem dKno_takeName_31 : uD prog_4_method_6_code 31 (.invokevirtual 87) 3 34 := ⟨by decide +kernel, rfl⟩
theorem dKno_takeName_34 : uD prog_4_method_6_code 34 (.astore 5) 2 36 := ⟨by decide +kernel, rfl⟩
theorem dKno_takeName_36 : uD prog_4_method_6_code 36 (.aload_n 1) 1 37 := ⟨by decide +kernel, rfl⟩
theorem dKno_takeName_37 : uD prog_4_method_6_code 37 (.getfield 57) 3 40 := ⟨by decide +kernel, rfl⟩
theorem dKno_takeName_40 : uD prog_4_method_6_code 40 (.iload_n 2) 1 41 := ⟨by decide +kernel, rfl⟩
theorem dKno_takeName_41 : uD prog_4_method_6_code 41 (.invokevirtual 40) 3 44 := ⟨by decide +kernel, rfl⟩
theorem dKno_takeName_44 : uD prog_4_method_6_code 44 (.istore 6) 2 46 := ⟨by decide +kernel, rfl⟩
theorem dKno_takeName_46 : uD prog_4_method_6_code 46 (.aload 5) 2 48 := ⟨by decide +kernel, rfl⟩
theorem dKno_takeName_48 : uD prog_4_method_6_code 48 (.iload 6) 2 50 := ⟨by decide +kernel, rfl⟩
theorem dKno_takeName_50 : uD prog_4_method_6_code 50 (.i2l) 1 51 := ⟨by decide +kernel, rfl⟩
theorem dKno_takeName_51 : uD prog_4_method_6_code 51 (.invokevirtual 91) 3 54 := ⟨by decide +kernel, rfl⟩
theorem dKno_takeName_54 : uD prog_4_method_6_code 54 (.istore 7) 2 56 := ⟨by decide +kernel, rfl⟩
theorem dKno_takeName_56 : uD prog_4_method_6_code 56 (.aload_n 3) 1 57 := ⟨by decide +kernel, rfl⟩
theorem dKno_takeName_57 : uD prog_4_method_6_code 57 (.iload 7) 2 59 := ⟨by decide +kernel, rfl⟩
theorem dKno_takeName_59 : uD prog_4_method_6_code 59 (.iconst (-1)) 1 60 := ⟨by decide +kernel, rfl⟩
theorem dKno_takeName_60 : uB prog_4_method_6_code 60 (.if_icmp .ne) 63 74 := ⟨14, by decide +kernel, rfl, by decide⟩
theorem dKno_takeName_63 : uD prog_4_method_6_code 63 (.aload 5) 2 65 := ⟨by decide +kernel, rfl⟩
theorem dKno_takeName_65 : uD prog_4_method_6_code 65 (.invokevirtual 95) 3 68 := ⟨by decide +kernel, rfl⟩
theorem dKno_takeName_68 : uD prog_4_method_6_code 68 (.iload 6) 2 70 := ⟨by decide +kernel, rfl⟩
theorem dKno_takeName_70 : uD prog_4_method_6_code 70 (.iadd) 1 71 := ⟨by decide +kernel, rfl⟩
theorem dKno_takeName_71 : uB prog_4_method_6_code 71 .goto 74 76 := ⟨5, by decide +kernel, rfl, by decide⟩
theorem dKno_takeName_74 : uD prog_4_method_6_code 74 (.iload 7) 2 76 := ⟨by decide +kernel, rfl⟩
theorem dKno_takeName_76 : uD prog_4_method_6_code 76 (.invokevirtual 96) 3 79 := ⟨by decide +kernel, rfl⟩
theorem dKno_takeName_79 : uD prog_4_method_6_code 79 (.aload 5) 2 81 := ⟨by decide +kernel, rfl⟩
theorem dKno_takeName_81 : uD prog_4_method_6_code 81 (.iload 6) 2 83 := ⟨by decide +kernel, rfl⟩
theorem dKno_takeName_83 : uD prog_4_method_6_code 83 (.i2l) 1 84 := ⟨by decide +kernel, rfl⟩
theorem dKno_takeName_84 : uD prog_4_method_6_code 84 (.invokevirtual 99) 3 87 := ⟨by decide +kernel, rfl⟩
theorem dKno_takeName_87 : uD prog_4_method_6_code 87 (.return_) 1 88 := ⟨by decide +kernel, rfl⟩
theorem dKno_takeNotes_0 : uD prog_4_method_7_code 0 (.aload_n 1) 1 1 := ⟨by decide +kernel, rfl⟩
theorem dKno_takeNotes_1 : uD prog_4_method_7_code 1 (.getfield 57) 3 4 := ⟨by decide +kernel, rfl⟩
theorem dKno_takeNotes_4 : uD prog_4_method_7_code 4 (.iload_n 2) 1 5 := ⟨by decide +kernel, rfl⟩
theorem dKno_takeNotes_5 : uD prog_4_method_7_code 5 (.invokevirtual 40) 3 8 := ⟨by decide +kernel, rfl⟩
theorem dKno_takeNotes_8 : uD prog_4_method_7_code 8 (.istore 4) 2 10 := ⟨by decide +kernel, rfl⟩
theorem dKno_takeNotes_10 : uD prog_4_method_7_code 10 (.aload_n 1) 1 11 := ⟨by decide +kernel, rfl⟩
theorem dKno_takeNotes_11 : uD prog_4_method_7_code 11 (.iload_n 2) 1 12 := ⟨by decide +kernel, rfl⟩
theorem dKno_takeNotes_12 : uD prog_4_method_7_code 12 (.invokevirtual 103) 3 15 := ⟨by decide +kernel, rfl⟩
theorem dKno_takeNotes_15 : uD prog_4_method_7_code 15 (.istore 5) 2 17 := ⟨by decide +kernel, rfl⟩
theorem dKno_takeNotes_17 : uD prog_4_method_7_code 17 (.aload_n 3) 1 18 := ⟨by decide +kernel, rfl⟩
theorem dKno_takeNotes_18 : uD prog_4_method_7_code 18 (.iload 5) 2 20 := ⟨by decide +kernel, rfl⟩
theorem dKno_takeNotes_20 : uD prog_4_method_7_code 20 (.aload_n 0) 1 21 := ⟨by decide +kernel, rfl⟩
theorem dKno_takeNotes_21 : uD prog_4_method_7_code 21 (.getfield 27) 3 24 := ⟨by decide +kernel, rfl⟩
theorem dKno_takeNotes_24 : uD prog_4_method_7_code 24 (.iload 4) 2 26 := ⟨by decide +kernel, rfl⟩
theorem dKno_takeNotes_26 : uD prog_4_method_7_code 26 (.invokevirtual 40) 3 29 := ⟨by decide +kernel, rfl⟩
theorem dKno_takeNotes_29 : uB prog_4_method_7_code 29 (.if_icmp .ne) 32 36 := ⟨7, by decide +kernel, rfl, by decide⟩
theorem dKno_takeNotes_32 : uD prog_4_method_7_code 32 (.iconst 0) 1 33 := ⟨by decide +kernel, rfl⟩
theorem dKno_takeNotes_33 : uB prog_4_method_7_code 33 .goto 36 40 := ⟨7, by decide +kernel, rfl, by decide⟩
theorem dKno_takeNotes_36 : uD prog_4_method_7_code 36 (.iload 5) 2 38 := ⟨by decide +kernel, rfl⟩
theorem dKno_takeNotes_38 : uD prog_4_method_7_code 38 (.iconst 1) 1 39 := ⟨by decide +kernel, rfl⟩
theorem dKno_takeNotes_39 : uD prog_4_method_7_code 39 (.iadd) 1 40 := ⟨by decide +kernel, rfl⟩
theorem dKno_takeNotes_40 : uD prog_4_method_7_code 40 (.invokevirtual 96) 3 43 := ⟨by decide +kernel, rfl⟩
theorem dKno_takeNotes_43 : uD prog_4_method_7_code 43 (.aload_n 0) 1 44 := ⟨by decide +kernel, rfl⟩
theorem dKno_takeNotes_44 : uD prog_4_method_7_code 44 (.getfield 27) 3 47 := ⟨by decide +kernel, rfl⟩
theorem dKno_takeNotes_47 : uD prog_4_method_7_code 47 (.iload 4) 2 49 := ⟨by decide +kernel, rfl⟩
theorem dKno_takeNotes_49 : uD prog_4_method_7_code 49 (.iload 5) 2 51 := ⟨by decide +kernel, rfl⟩
theorem dKno_takeNotes_51 : uD prog_4_method_7_code 51 (.invokevirtual 106) 3 54 := ⟨by decide +kernel, rfl⟩
theorem dKno_takeNotes_54 : uD prog_4_method_7_code 54 (.iconst 0) 1 55 := ⟨by decide +kernel, rfl⟩
theorem dKno_takeNotes_55 : uD prog_4_method_7_code 55 (.istore 6) 2 57 := ⟨by decide +kernel, rfl⟩
theorem dKno_takeNotes_57 : uD prog_4_method_7_code 57 (.iload 6) 2 59 := ⟨by decide +kernel, rfl⟩
theorem dKno_takeNotes_59 : uD prog_4_method_7_code 59 (.iconst 4) 1 60 := ⟨by decide +kernel, rfl⟩
theorem dKno_takeNotes_60 : uB prog_4_method_7_code 60 (.if_icmp .ge) 63 96 := ⟨36, by decide +kernel, rfl, by decide⟩
theorem dKno_takeNotes_63 : uD prog_4_method_7_code 63 (.iload 5) 2 65 := ⟨by decide +kernel, rfl⟩
theorem dKno_takeNotes_65 : uD prog_4_method_7_code 65 (.iload 6) 2 67 := ⟨by decide +kernel, rfl⟩
theorem dKno_takeNotes_67 : uD prog_4_method_7_code 67 (.ishr) 1 68 := ⟨by decide +kernel, rfl⟩
theorem dKno_takeNotes_68 : uD prog_4_method_7_code 68 (.iconst 1) 1 69 := ⟨by decide +kernel, rfl⟩
theorem dKno_takeNotes_69 : uD prog_4_method_7_code 69 (.iand) 1 70 := ⟨by decide +kernel, rfl⟩
theorem dKno_takeNotes_70 : uD prog_4_method_7_code 70 (.iconst 1) 1 71 := ⟨by decide +kernel, rfl⟩
theorem dKno_takeNotes_71 : uB prog_4_method_7_code 71 (.if_icmp .ne) 74 90 := ⟨19, by decide +kernel, rfl, by decide⟩
theorem dKno_takeNotes_74 : uD prog_4_method_7_code 74 (.aload_n 0) 1 75 := ⟨by decide +kernel, rfl⟩
theorem dKno_takeNotes_75 : uD prog_4_method_7_code 75 (.iload 4) 2 77 := ⟨by decide +kernel, rfl⟩
theorem dKno_takeNotes_77 : uD prog_4_method_7_code 77 (.iload 6) 2 79 := ⟨by decide +kernel, rfl⟩
theorem dKno_takeNotes_79 : uD prog_4_method_7_code 79 (.aload_n 1) 1 80 := ⟨by decide +kernel, rfl⟩
theorem dKno_takeNotes_80 : uD prog_4_method_7_code 80 (.iload_n 2) 1 81 := ⟨by decide +kernel, rfl⟩
theorem dKno_takeNotes_81 : uD prog_4_method_7_code 81 (.iload 6) 2 83 := ⟨by decide +kernel, rfl⟩
theorem dKno_takeNotes_83 : uD prog_4_method_7_code 83 (.invokevirtual 110) 3 86 := ⟨by decide +kernel, rfl⟩
theorem dKno_takeNotes_86 : uD prog_4_method_7_code 86 (.aload_n 3) 1 87 := ⟨by decide +kernel, rfl⟩
theorem dKno_takeNotes_87 : uD prog_4_method_7_code 87 (.invokevirtual 114) 3 90 := ⟨by decide +kernel, rfl⟩
theorem dKno_takeNotes_90 : uD prog_4_method_7_code 90 (.iinc 6 1) 3 93 := ⟨by decide +kernel, rfl⟩
theorem dKno_takeNotes_93 : uB prog_4_method_7_code 93 .goto 96 57 := ⟨-36, by decide +kernel, rfl, by decide⟩
theorem dKno_takeNotes_96 : uD prog_4_method_7_code 96 (.iload 5) 2 98 := ⟨by decide +kernel, rfl⟩
theorem dKno_takeNotes_98 : uD prog_4_method_7_code 98 (.invokestatic 118) 3 101 := ⟨by decide +kernel, rfl⟩
theorem dKno_takeNotes_101 : uD prog_4_method_7_code 101 (.istore 6) 2 103 := ⟨by decide +kernel, rfl⟩
theorem dKno_takeNotes_103 : uD prog_4_method_7_code 103 (.iload 6) 2 105 := ⟨by decide +kernel, rfl⟩
theorem dKno_takeNotes_105 : uD prog_4_method_7_code 105 (.iconst 2) 1 106 := ⟨by decide +kernel, rfl⟩
theorem dKno_takeNotes_106 : uB prog_4_method_7_code 106 (.if_icmp .lt) 109 120 := ⟨14, by decide +kernel, rfl, by decide⟩
theorem dKno_takeNotes_109 : uD prog_4_method_7_code 109 (.aload_n 3) 1 110 := ⟨by decide +kernel, rfl⟩
theorem dKno_takeNotes_110 : uD prog_4_method_7_code 110 (.aload_n 1) 1 111 := ⟨by decide +kernel, rfl⟩
theorem dKno_takeNotes_111 : uD prog_4_method_7_code 111 (.iload_n 2) 1 112 := ⟨by decide +kernel, rfl⟩
theorem dKno_takeNotes_112 : uD prog_4_method_7_code 112 (.iload 6) 2 114 := ⟨by decide +kernel, rfl⟩
theorem dKno_takeNotes_114 : uD prog_4_method_7_code 114 (.invokevirtual 123) 3 117 := ⟨by decide +kernel, rfl⟩
theorem dKno_takeNotes_117 : uD prog_4_method_7_code 117 (.invokevirtual 96) 3 120 := ⟨by decide +kernel, rfl⟩
theorem dKno_takeNotes_120 : uD prog_4_method_7_code 120 (.return_) 1 121 := ⟨by decide +kernel, rfl⟩
theorem dKno_takeValue_0 : uD prog_4_method_8_code 0 (.iload_n 3) 1 1 := ⟨by decide +kernel, rfl⟩
theorem dKno_takeValue_1 : uD prog_4_method_8_code 1 (.aload_n 0) 1 2 := ⟨by decide +kernel, rfl⟩
theorem dKno_takeValue_2 : uD prog_4_method_8_code 2 (.iload_n 1) 1 3 := ⟨by decide +kernel, rfl⟩
theorem dKno_takeValue_3 : uD prog_4_method_8_code 3 (.iload_n 2) 1 4 := ⟨by decide +kernel, rfl⟩
theorem dKno_takeValue_4 : uD prog_4_method_8_code 4 (.invokevirtual 126) 3 7 := ⟨by decide +kernel, rfl⟩
theorem dKno_takeValue_7 : uD prog_4_method_8_code 7 (.iconst 0) 1 8 := ⟨by decide +kernel, rfl⟩
theorem dKno_takeValue_8 : uD prog_4_method_8_code 8 (.invokestatic 129) 3 11 := ⟨by decide +kernel, rfl⟩
theorem dKno_takeValue_11 : uD prog_4_method_8_code 11 (.isub) 1 12 := ⟨by decide +kernel, rfl⟩
theorem dKno_takeValue_12 : uD prog_4_method_8_code 12 (.istore 5) 2 14 := ⟨by decide +kernel, rfl⟩
theorem dKno_takeValue_14 : uD prog_4_method_8_code 14 (.aload 4) 2 16 := ⟨by decide +kernel, rfl⟩
theorem dKno_takeValue_16 : uD prog_4_method_8_code 16 (.iload 5) 2 18 := ⟨by decide +kernel, rfl⟩
theorem dKno_takeValue_18 : uB prog_4_method_8_code 18 (.ifCond .ge) 21 29 := ⟨11, by decide +kernel, rfl, by decide⟩
theorem dKno_takeValue_21 : uD prog_4_method_8_code 21 (.iload 5) 2 23 := ⟨by decide +kernel, rfl⟩
theorem dKno_takeValue_23 : uD prog_4_method_8_code 23 (.bipush 10) 2 25 := ⟨by decide +kernel, rfl⟩
theorem dKno_takeValue_25 : uD prog_4_method_8_code 25 (.iadd) 1 26 := ⟨by decide +kernel, rfl⟩
theorem dKno_takeValue_26 : uB prog_4_method_8_code 26 .goto 29 31 := ⟨5, by decide +kernel, rfl, by decide⟩
theorem dKno_takeValue_29 : uD prog_4_method_8_code 29 (.iload 5) 2 31 := ⟨by decide +kernel, rfl⟩
theorem dKno_takeValue_31 : uD prog_4_method_8_code 31 (.invokevirtual 96) 3 34 := ⟨by decide +kernel, rfl⟩
theorem dKno_takeValue_34 : uD prog_4_method_8_code 34 (.aload_n 0) 1 35 := ⟨by decide +kernel, rfl⟩
theorem dKno_takeValue_35 : uD prog_4_method_8_code 35 (.getfield 31) 3 38 := ⟨by decide +kernel, rfl⟩
theorem dKno_takeValue_38 : uD prog_4_method_8_code 38 (.iload_n 1) 1 39 := ⟨by decide +kernel, rfl⟩
theorem dKno_takeValue_39 : uD prog_4_method_8_code 39 (.iconst 4) 1 40 := ⟨by decide +kernel, rfl⟩
theorem dKno_takeValue_40 : uD prog_4_method_8_code 40 (.imul) 1 41 := ⟨by decide +kernel, rfl⟩
theorem dKno_takeValue_41 : uD prog_4_method_8_code 41 (.iload_n 2) 1 42 := ⟨by decide +kernel, rfl⟩
theorem dKno_takeValue_42 : uD prog_4_method_8_code 42 (.iadd) 1 43 := ⟨by decide +kernel, rfl⟩
theorem dKno_takeValue_43 : uD prog_4_method_8_code 43 (.iload_n 3) 1 44 := ⟨by decide +kernel, rfl⟩
theorem dKno_takeValue_44 : uD prog_4_method_8_code 44 (.invokevirtual 106) 3 47 := ⟨by decide +kernel, rfl⟩
theorem dKno_takeValue_47 : uD prog_4_method_8_code 47 (.return_) 1 48 := ⟨by decide +kernel, rfl⟩
theorem dKno_takeWord_0 : uD prog_4_method_9_code 0 (.aload_n 1) 1 1 := ⟨by decide +kernel, rfl⟩
theorem dKno_takeWord_1 : uD prog_4_method_9_code 1 (.getfield 76) 3 4 := ⟨by decide +kernel, rfl⟩
theorem dKno_takeWord_4 : uD prog_4_method_9_code 4 (.iload_n 2) 1 5 := ⟨by decide +kernel, rfl⟩
theorem dKno_takeWord_5 : uD prog_4_method_9_code 5 (.invokevirtual 40) 3 8 := ⟨by decide +kernel, rfl⟩
theorem dKno_takeWord_8 : uD prog_4_method_9_code 8 (.istore 4) 2 10 := ⟨by decide +kernel, rfl⟩
theorem dKno_takeWord_10 : uD prog_4_method_9_code 10 (.iload 4) 2 12 := ⟨by decide +kernel, rfl⟩
theorem dKno_takeWord_12 : uD prog_4_method_9_code 12 (.aload_n 1) 1 13 := ⟨by decide +kernel, rfl⟩
theorem dKno_takeWord_13 : uD prog_4_method_9_code 13 (.getfield 134) 3 16 := ⟨by decide +kernel, rfl⟩
theorem dKno_takeWord_16 : uD prog_4_method_9_code 16 (.iload_n 2) 1 17 := ⟨by decide +kernel, rfl⟩
theorem dKno_takeWord_17 : uD prog_4_method_9_code 17 (.invokevirtual 40) 3 20 := ⟨by decide +kernel, rfl⟩
theorem dKno_takeWord_20 : uD prog_4_method_9_code 20 (.iadd) 1 21 := ⟨by decide +kernel, rfl⟩
theorem dKno_takeWord_21 : uD prog_4_method_9_code 21 (.istore 5) 2 23 := ⟨by decide +kernel, rfl⟩
theorem dKno_takeWord_23 : uD prog_4_method_9_code 23 (.lconst 0) 1 24 := ⟨by decide +kernel, rfl⟩
theorem dKno_takeWord_24 : uD prog_4_method_9_code 24 (.lstore 6) 2 26 := ⟨by decide +kernel, rfl⟩
theorem dKno_takeWord_26 : uD prog_4_method_9_code 26 (.iload 4) 2 28 := ⟨by decide +kernel, rfl⟩
theorem dKno_takeWord_28 : uD prog_4_method_9_code 28 (.istore 8) 2 30 := ⟨by decide +kernel, rfl⟩
theorem dKno_takeWord_30 : uD prog_4_method_9_code 30 (.iload 8) 2 32 := ⟨by decide +kernel, rfl⟩
theorem dKno_takeWord_32 : uD prog_4_method_9_code 32 (.iload 5) 2 34 := ⟨by decide +kernel, rfl⟩
theorem dKno_takeWord_34 : uB prog_4_method_9_code 34 (.if_icmp .ge) 37 68 := ⟨34, by decide +kernel, rfl, by decide⟩
theorem dKno_takeWord_37 : uD prog_4_method_9_code 37 (.lload 6) 2 39 := ⟨by decide +kernel, rfl⟩
theorem dKno_takeWord_39 : uD prog_4_method_9_code 39 (.ldc2_w 137) 3 42 := ⟨by decide +kernel, rfl⟩
theorem dKno_takeWord_42 : uD prog_4_method_9_code 42 (.lmul) 1 43 := ⟨by decide +kernel, rfl⟩
theorem dKno_takeWord_43 : uD prog_4_method_9_code 43 (.aload_n 1) 1 44 := ⟨by decide +kernel, rfl⟩
theorem dKno_takeWord_44 : uD prog_4_method_9_code 44 (.getfield 139) 3 47 := ⟨by decide +kernel, rfl⟩
theorem dKno_takeWord_47 : uD prog_4_method_9_code 47 (.iload 8) 2 49 := ⟨by decide +kernel, rfl⟩
theorem dKno_takeWord_49 : uD prog_4_method_9_code 49 (.invokevirtual 40) 3 52 := ⟨by decide +kernel, rfl⟩
theorem dKno_takeWord_52 : uD prog_4_method_9_code 52 (.i2l) 1 53 := ⟨by decide +kernel, rfl⟩
theorem dKno_takeWord_53 : uD prog_4_method_9_code 53 (.ladd) 1 54 := ⟨by decide +kernel, rfl⟩
theorem dKno_takeWord_54 : uD prog_4_method_9_code 54 (.ldc2_w 142) 3 57 := ⟨by decide +kernel, rfl⟩
theorem dKno_takeWord_57 : uD prog_4_method_9_code 57 (.lsub) 1 58 := ⟨by decide +kernel, rfl⟩
theorem dKno_takeWord_58 : uD prog_4_method_9_code 58 (.lconst 1) 1 59 := ⟨by decide +kernel, rfl⟩
theorem dKno_takeWord_59 : uD prog_4_method_9_code 59 (.ladd) 1 60 := ⟨by decide +kernel, rfl⟩
theorem dKno_takeWord_60 : uD prog_4_method_9_code 60 (.lstore 6) 2 62 := ⟨by decide +kernel, rfl⟩
theorem dKno_takeWord_62 : uD prog_4_method_9_code 62 (.iinc 8 1) 3 65 := ⟨by decide +kernel, rfl⟩
theorem dKno_takeWord_65 : uB prog_4_method_9_code 65 .goto 68 30 := ⟨-35, by decide +kernel, rfl, by decide⟩
theorem dKno_takeWord_68 : uD prog_4_method_9_code 68 (.aload_n 0) 1 69 := ⟨by decide +kernel, rfl⟩
theorem dKno_takeWord_69 : uD prog_4_method_9_code 69 (.getfield 20) 3 72 := ⟨by decide +kernel, rfl⟩
theorem dKno_takeWord_72 : uD prog_4_method_9_code 72 (.lload 6) 2 74 := ⟨by decide +kernel, rfl⟩
theorem dKno_takeWord_74 : uD prog_4_method_9_code 74 (.invokevirtual 91) 3 77 := ⟨by decide +kernel, rfl⟩
theorem dKno_takeWord_77 : uD prog_4_method_9_code 77 (.istore 8) 2 79 := ⟨by decide +kernel, rfl⟩
theorem dKno_takeWord_79 : uD prog_4_method_9_code 79 (.iload 8) 2 81 := ⟨by decide +kernel, rfl⟩
theorem dKno_takeWord_81 : uD prog_4_method_9_code 81 (.iconst (-1)) 1 82 := ⟨by decide +kernel, rfl⟩
theorem dKno_takeWord_82 : uB prog_4_method_9_code 82 (.if_icmp .ne) 85 141 := ⟨59, by decide +kernel, rfl, by decide⟩
theorem dKno_takeWord_85 : uD prog_4_method_9_code 85 (.aload_n 3) 1 86 := ⟨by decide +kernel, rfl⟩
theorem dKno_takeWord_86 : uD prog_4_method_9_code 86 (.aload_n 0) 1 87 := ⟨by decide +kernel, rfl⟩
theorem dKno_takeWord_87 : uD prog_4_method_9_code 87 (.getfield 20) 3 90 := ⟨by decide +kernel, rfl⟩
theorem dKno_takeWord_90 : uD prog_4_method_9_code 90 (.invokevirtual 95) 3 93 := ⟨by decide +kernel, rfl⟩
theorem dKno_takeWord_93 : uD prog_4_method_9_code 93 (.invokevirtual 96) 3 96 := ⟨by decide +kernel, rfl⟩
theorem dKno_takeWord_96 : uD prog_4_method_9_code 96 (.aload_n 3) 1 97 := ⟨by decide +kernel, rfl⟩
theorem dKno_takeWord_97 : uD prog_4_method_9_code 97 (.iload 5) 2 99 := ⟨by decide +kernel, rfl⟩
theorem dKno_takeWord_99 : uD prog_4_method_9_code 99 (.iload 4) 2 101 := ⟨by decide +kernel, rfl⟩
theorem dKno_takeWord_101 : uD prog_4_method_9_code 101 (.isub) 1 102 := ⟨by decide +kernel, rfl⟩
theorem dKno_takeWord_102 : uD prog_4_method_9_code 102 (.invokevirtual 96) 3 105 := ⟨by decide +kernel, rfl⟩
theorem dKno_takeWord_105 : uD prog_4_method_9_code 105 (.iload 4) 2 107 := ⟨by decide +kernel, rfl⟩
theorem dKno_takeWord_107 : uD prog_4_method_9_code 107 (.istore 9) 2 109 := ⟨by decide +kernel, rfl⟩
theorem dKno_takeWord_109 : uD prog_4_method_9_code 109 (.iload 9) 2 111 := ⟨by decide +kernel, rfl⟩
theorem dKno_takeWord_111 : uD prog_4_method_9_code 111 (.iload 5) 2 113 := ⟨by decide +kernel, rfl⟩
theorem dKno_takeWord_113 : uB prog_4_method_9_code 113 (.if_icmp .ge) 116 138 := ⟨25, by decide +kernel, rfl, by decide⟩
theorem dKno_takeWord_116 : uD prog_4_method_9_code 116 (.aload_n 3) 1 117 := ⟨by decide +kernel, rfl⟩
theorem dKno_takeWord_117 : uD prog_4_method_9_code 117 (.aload_n 1) 1 118 := ⟨by decide +kernel, rfl⟩
theorem dKno_takeWord_118 : uD prog_4_method_9_code 118 (.getfield 139) 3 121 := ⟨by decide +kernel, rfl⟩
theorem dKno_takeWord_121 : uD prog_4_method_9_code 121 (.iload 9) 2 123 := ⟨by decide +kernel, rfl⟩
theorem dKno_takeWord_123 : uD prog_4_method_9_code 123 (.invokevirtual 40) 3 126 := ⟨by decide +kernel, rfl⟩
theorem dKno_takeWord_126 : uD prog_4_method_9_code 126 (.bipush 103) 2 128 := ⟨by decide +kernel, rfl⟩
theorem dKno_takeWord_128 : uD prog_4_method_9_code 128 (.isub) 1 129 := ⟨by decide +kernel, rfl⟩
theorem dKno_takeWord_129 : uD prog_4_method_9_code 129 (.invokevirtual 96) 3 132 := ⟨by decide +kernel, rfl⟩
theorem dKno_takeWord_132 : uD prog_4_method_9_code 132 (.iinc 9 1) 3 135 := ⟨by decide +kernel, rfl⟩
theorem dKno_takeWord_135 : uB prog_4_method_9_code 135 .goto 138 109 := ⟨-26, by decide +kernel, rfl, by decide⟩
theorem dKno_takeWord_138 : uB prog_4_method_9_code 138 .goto 141 147 := ⟨9, by decide +kernel, rfl, by decide⟩
theorem dKno_takeWord_141 : uD prog_4_method_9_code 141 (.aload_n 3) 1 142 := ⟨by decide +kernel, rfl⟩
theorem dKno_takeWord_142 : uD prog_4_method_9_code 142 (.iload 8) 2 144 := ⟨by decide +kernel, rfl⟩
theorem dKno_takeWord_144 : uD prog_4_method_9_code 144 (.invokevirtual 96) 3 147 := ⟨by decide +kernel, rfl⟩
theorem dKno_takeWord_147 : uD prog_4_method_9_code 147 (.aload_n 0) 1 148 := ⟨by decide +kernel, rfl⟩
theorem dKno_takeWord_148 : uD prog_4_method_9_code 148 (.getfield 20) 3 151 := ⟨by decide +kernel, rfl⟩
theorem dKno_takeWord_151 : uD prog_4_method_9_code 151 (.lload 6) 2 153 := ⟨by decide +kernel, rfl⟩
theorem dKno_takeWord_153 : uD prog_4_method_9_code 153 (.invokevirtual 99) 3 156 := ⟨by decide +kernel, rfl⟩
theorem dKno_takeWord_156 : uD prog_4_method_9_code 156 (.return_) 1 157 := ⟨by decide +kernel, rfl⟩
theorem dPag_init_0 : uD prog_5_method_1_code 0 (.aload_n 0) 1 1 := ⟨by decide +kernel, rfl⟩
theorem dPag_init_1 : uD prog_5_method_1_code 1 (.invokespecial 3) 3 4 := ⟨by decide +kernel, rfl⟩
theorem dPag_init_4 : uD prog_5_method_1_code 4 (.aload_n 0) 1 5 := ⟨by decide +kernel, rfl⟩
theorem dPag_init_5 : uD prog_5_method_1_code 5 (.new 9) 3 8 := ⟨by decide +kernel, rfl⟩
theorem dPag_init_8 : uD prog_5_method_1_code 8 (.dup) 1 9 := ⟨by decide +kernel, rfl⟩
theorem dPag_init_9 : uD prog_5_method_1_code 9 (.bipush 100) 2 11 := ⟨by decide +kernel, rfl⟩
theorem dPag_init_11 : uD prog_5_method_1_code 11 (.invokespecial 11) 3 14 := ⟨by decide +kernel, rfl⟩
theorem dPag_init_14 : uD prog_5_method_1_code 14 (.putfield 14) 3 17 := ⟨by decide +kernel, rfl⟩
theorem dPag_init_17 : uD prog_5_method_1_code 17 (.aload_n 0) 1 18 := ⟨by decide +kernel, rfl⟩
theorem dPag_init_18 : uD prog_5_method_1_code 18 (.new 9) 3 21 := ⟨by decide +kernel, rfl⟩
theorem dPag_init_21 : uD prog_5_method_1_code 21 (.dup) 1 22 := ⟨by decide +kernel, rfl⟩
theorem dPag_init_22 : uD prog_5_method_1_code 22 (.bipush 100) 2 24 := ⟨by decide +kernel, rfl⟩
theorem dPag_init_24 : uD prog_5_method_1_code 24 (.invokespecial 11) 3 27 := ⟨by decide +kernel, rfl⟩
theorem dPag_init_27 : uD prog_5_method_1_code 27 (.putfield 20) 3 30 := ⟨by decide +kernel, rfl⟩
theorem dPag_init_30 : uD prog_5_method_1_code 30 (.aload_n 0) 1 31 := ⟨by decide +kernel, rfl⟩
theorem dPag_init_31 : uD prog_5_method_1_code 31 (.new 9) 3 34 := ⟨by decide +kernel, rfl⟩
theorem dPag_init_34 : uD prog_5_method_1_code 34 (.dup) 1 35 := ⟨by decide +kernel, rfl⟩
theorem dPag_init_35 : uD prog_5_method_1_code 35 (.bipush 34) 2 37 := ⟨by decide +kernel, rfl⟩
theorem dPag_init_37 : uD prog_5_method_1_code 37 (.invokespecial 11) 3 40 := ⟨by decide +kernel, rfl⟩
theorem dPag_init_40 : uD prog_5_method_1_code 40 (.putfield 23) 3 43 := ⟨by decide +kernel, rfl⟩
theorem dPag_init_43 : uD prog_5_method_1_code 43 (.aload_n 0) 1 44 := ⟨by decide +kernel, rfl⟩
theorem dPag_init_44 : uD prog_5_method_1_code 44 (.new 9) 3 47 := ⟨by decide +kernel, rfl⟩
theorem dPag_init_47 : uD prog_5_method_1_code 47 (.dup) 1 48 := ⟨by decide +kernel, rfl⟩
theorem dPag_init_48 : uD prog_5_method_1_code 48 (.bipush 34) 2 50 := ⟨by decide +kernel, rfl⟩
theorem dPag_init_50 : uD prog_5_method_1_code 50 (.invokespecial 11) 3 53 := ⟨by decide +kernel, rfl⟩
theorem dPag_init_53 : uD prog_5_method_1_code 53 (.putfield 26) 3 56 := ⟨by decide +kernel, rfl⟩
theorem dPag_init_56 : uD prog_5_method_1_code 56 (.aload_n 0) 1 57 := ⟨by decide +kernel, rfl⟩
theorem dPag_init_57 : uD prog_5_method_1_code 57 (.new 9) 3 60 := ⟨by decide +kernel, rfl⟩
theorem dPag_init_60 : uD prog_5_method_1_code 60 (.dup) 1 61 := ⟨by decide +kernel, rfl⟩
theorem dPag_init_61 : uD prog_5_method_1_code 61 (.bipush 34) 2 63 := ⟨by decide +kernel, rfl⟩
theorem dPag_init_63 : uD prog_5_method_1_code 63 (.invokespecial 11) 3 66 := ⟨by decide +kernel, rfl⟩
theorem dPag_init_66 : uD prog_5_method_1_code 66 (.putfield 29) 3 69 := ⟨by decide +kernel, rfl⟩
theorem dPag_init_69 : uD prog_5_method_1_code 69 (.aload_n 0) 1 70 := ⟨by decide +kernel, rfl⟩
theorem dPag_init_70 : uD prog_5_method_1_code 70 (.new 9) 3 73 := ⟨by decide +kernel, rfl⟩
theorem dPag_init_73 : uD prog_5_method_1_code 73 (.dup) 1 74 := ⟨by decide +kernel, rfl⟩
theorem dPag_init_74 : uD prog_5_method_1_code 74 (.bipush 34) 2 76 := ⟨by decide +kernel, rfl⟩
theorem dPag_init_76 : uD prog_5_method_1_code 76 (.invokespecial 11) 3 79 := ⟨by decide +kernel, rfl⟩
theorem dPag_init_79 : uD prog_5_method_1_code 79 (.putfield 32) 3 82 := ⟨by decide +kernel, rfl⟩
theorem dPag_init_82 : uD prog_5_method_1_code 82 (.aload_n 0) 1 83 := ⟨by decide +kernel, rfl⟩
theorem dPag_init_83 : uD prog_5_method_1_code 83 (.new 9) 3 86 := ⟨by decide +kernel, rfl⟩
theorem dPag_init_86 : uD prog_5_method_1_code 86 (.dup) 1 87 := ⟨by decide +kernel, rfl⟩
theorem dPag_init_87 : uD prog_5_method_1_code 87 (.bipush 34) 2 89 := ⟨by decide +kernel, rfl⟩
theorem dPag_init_89 : uD prog_5_method_1_code 89 (.invokespecial 11) 3 92 := ⟨by decide +kernel, rfl⟩
theorem dPag_init_92 : uD prog_5_method_1_code 92 (.putfield 35) 3 95 := ⟨by decide +kernel, rfl⟩
theorem dPag_init_95 : uD prog_5_method_1_code 95 (.aload_n 0) 1 96 := ⟨by decide +kernel, rfl⟩
theorem dPag_init_96 : uD prog_5_method_1_code 96 (.new 9) 3 99 := ⟨by decide +kernel, rfl⟩
theorem dPag_init_99 : uD prog_5_method_1_code 99 (.dup) 1 100 := ⟨by decide +kernel, rfl⟩
theorem dPag_init_100 : uD prog_5_method_1_code 100 (.bipush 34) 2 102 := ⟨by decide +kernel, rfl⟩
theorem dPag_init_102 : uD prog_5_method_1_code 102 (.invokespecial 11) 3 105 := ⟨by decide +kernel, rfl⟩
theorem dPag_init_105 : uD prog_5_method_1_code 105 (.putfield 38) 3 108 := ⟨by decide +kernel, rfl⟩
theorem dPag_init_108 : uD prog_5_method_1_code 108 (.return_) 1 109 := ⟨by decide +kernel, rfl⟩
theorem dPag_clear_0 : uD prog_5_method_2_code 0 (.aload_n 0) 1 1 := ⟨by decide +kernel, rfl⟩
theorem dPag_clear_1 : uD prog_5_method_2_code 1 (.getfield 14) 3 4 := ⟨by decide +kernel, rfl⟩
theorem dPag_clear_4 : uD prog_5_method_2_code 4 (.invokevirtual 41) 3 7 := ⟨by decide +kernel, rfl⟩
theorem dPag_clear_7 : uD prog_5_method_2_code 7 (.aload_n 0) 1 8 := ⟨by decide +kernel, rfl⟩
theorem dPag_clear_8 : uD prog_5_method_2_code 8 (.getfield 20) 3 11 := ⟨by decide +kernel, rfl⟩
theorem dPag_clear_11 : uD prog_5_method_2_code 11 (.invokevirtual 41) 3 14 := ⟨by decide +kernel, rfl⟩
theorem dPag_clear_14 : uD prog_5_method_2_code 14 (.aload_n 0) 1 15 := ⟨by decide +kernel, rfl⟩
theorem dPag_clear_15 : uD prog_5_method_2_code 15 (.getfield 23) 3 18 := ⟨by decide +kernel, rfl⟩
theorem dPag_clear_18 : uD prog_5_method_2_code 18 (.invokevirtual 41) 3 21 := ⟨by decide +kernel, rfl⟩
theorem dPag_clear_21 : uD prog_5_method_2_code 21 (.aload_n 0) 1 22 := ⟨by decide +kernel, rfl⟩
theorem dPag_clear_22 : uD prog_5_method_2_code 22 (.getfield 26) 3 25 := ⟨by decide +kernel, rfl⟩
theorem dPag_clear_25 : uD prog_5_method_2_code 25 (.invokevirtual 41) 3 28 := ⟨by decide +kernel, rfl⟩
theorem dPag_clear_28 : uD prog_5_method_2_code 28 (.aload_n 0) 1 29 := ⟨by decide +kernel, rfl⟩
theorem dPag_clear_29 : uD prog_5_method_2_code 29 (.getfield 29) 3 32 := ⟨by decide +kernel, rfl⟩
theorem dPag_clear_32 : uD prog_5_method_2_code 32 (.invokevirtual 41) 3 35 := ⟨by decide +kernel, rfl⟩
theorem dPag_clear_35 : uD prog_5_method_2_code 35 (.aload_n 0) 1 36 := ⟨by decide +kernel, rfl⟩
theorem dPag_clear_36 : uD prog_5_method_2_code 36 (.getfield 32) 3 39 := ⟨by decide +kernel, rfl⟩
theorem dPag_clear_39 : uD prog_5_method_2_code 39 (.invokevirtual 41) 3 42 := ⟨by decide +kernel, rfl⟩
theorem dPag_clear_42 : uD prog_5_method_2_code 42 (.aload_n 0) 1 43 := ⟨by decide +kernel, rfl⟩
theorem dPag_clear_43 : uD prog_5_method_2_code 43 (.getfield 35) 3 46 := ⟨by decide +kernel, rfl⟩
theorem dPag_clear_46 : uD prog_5_method_2_code 46 (.invokevirtual 41) 3 49 := ⟨by decide +kernel, rfl⟩
theorem dPag_clear_49 : uD prog_5_method_2_code 49 (.aload_n 0) 1 50 := ⟨by decide +kernel, rfl⟩
theorem dPag_clear_50 : uD prog_5_method_2_code 50 (.getfield 38) 3 53 := ⟨by decide +kernel, rfl⟩
theorem dPag_clear_53 : uD prog_5_method_2_code 53 (.invokevirtual 41) 3 56 := ⟨by decide +kernel, rfl⟩
theorem dPag_clear_56 : uD prog_5_method_2_code 56 (.return_) 1 57 := ⟨by decide +kernel, rfl⟩
theorem dPag_become_0 : uD prog_5_method_3_code 0 (.aload_n 0) 1 1 := ⟨by decide +kernel, rfl⟩
theorem dPag_become_1 : uD prog_5_method_3_code 1 (.getfield 14) 3 4 := ⟨by decide +kernel, rfl⟩
theorem dPag_become_4 : uD prog_5_method_3_code 4 (.aload_n 1) 1 5 := ⟨by decide +kernel, rfl⟩
theorem dPag_become_5 : uD prog_5_method_3_code 5 (.getfield 14) 3 8 := ⟨by decide +kernel, rfl⟩
theorem dPag_become_8 : uD prog_5_method_3_code 8 (.invokevirtual 44) 3 11 := ⟨by decide +kernel, rfl⟩
theorem dPag_become_11 : uD prog_5_method_3_code 11 (.aload_n 0) 1 12 := ⟨by decide +kernel, rfl⟩
theorem dPag_become_12 : uD prog_5_method_3_code 12 (.getfield 20) 3 15 := ⟨by decide +kernel, rfl⟩
theorem dPag_become_15 : uD prog_5_method_3_code 15 (.aload_n 1) 1 16 := ⟨by decide +kernel, rfl⟩
theorem dPag_become_16 : uD prog_5_method_3_code 16 (.getfield 20) 3 19 := ⟨by decide +kernel, rfl⟩
theorem dPag_become_19 : uD prog_5_method_3_code 19 (.invokevirtual 44) 3 22 := ⟨by decide +kernel, rfl⟩
theorem dPag_become_22 : uD prog_5_method_3_code 22 (.aload_n 0) 1 23 := ⟨by decide +kernel, rfl⟩
theorem dPag_become_23 : uD prog_5_method_3_code 23 (.getfield 23) 3 26 := ⟨by decide +kernel, rfl⟩
theorem dPag_become_26 : uD prog_5_method_3_code 26 (.aload_n 1) 1 27 := ⟨by decide +kernel, rfl⟩
theorem dPag_become_27 : uD prog_5_method_3_code 27 (.getfield 23) 3 30 := ⟨by decide +kernel, rfl⟩
theorem dPag_become_30 : uD prog_5_method_3_code 30 (.invokevirtual 44) 3 33 := ⟨by decide +kernel, rfl⟩
theorem dPag_become_33 : uD prog_5_method_3_code 33 (.aload_n 0) 1 34 := ⟨by decide +kernel, rfl⟩
theorem dPag_become_34 : uD prog_5_method_3_code 34 (.getfield 26) 3 37 := ⟨by decide +kernel, rfl⟩
theorem dPag_become_37 : uD prog_5_method_3_code 37 (.aload_n 1) 1 38 := ⟨by decide +kernel, rfl⟩
theorem dPag_become_38 : uD prog_5_method_3_code 38 (.getfield 26) 3 41 := ⟨by decide +kernel, rfl⟩
theorem dPag_become_41 : uD prog_5_method_3_code 41 (.invokevirtual 44) 3 44 := ⟨by decide +kernel, rfl⟩
theorem dPag_become_44 : uD prog_5_method_3_code 44 (.aload_n 0) 1 45 := ⟨by decide +kernel, rfl⟩
theorem dPag_become_45 : uD prog_5_method_3_code 45 (.getfield 29) 3 48 := ⟨by decide +kernel, rfl⟩
theorem dPag_become_48 : uD prog_5_method_3_code 48 (.aload_n 1) 1 49 := ⟨by decide +kernel, rfl⟩
theorem dPag_become_49 : uD prog_5_method_3_code 49 (.getfield 29) 3 52 := ⟨by decide +kernel, rfl⟩
theorem dPag_become_52 : uD prog_5_method_3_code 52 (.invokevirtual 44) 3 55 := ⟨by decide +kernel, rfl⟩
theorem dPag_become_55 : uD prog_5_method_3_code 55 (.aload_n 0) 1 56 := ⟨by decide +kernel, rfl⟩
theorem dPag_become_56 : uD prog_5_method_3_code 56 (.getfield 32) 3 59 := ⟨by decide +kernel, rfl⟩
theorem dPag_become_59 : uD prog_5_method_3_code 59 (.aload_n 1) 1 60 := ⟨by decide +kernel, rfl⟩
theorem dPag_become_60 : uD prog_5_method_3_code 60 (.getfield 32) 3 63 := ⟨by decide +kernel, rfl⟩
theorem dPag_become_63 : uD prog_5_method_3_code 63 (.invokevirtual 44) 3 66 := ⟨by decide +kernel, rfl⟩
theorem dPag_become_66 : uD prog_5_method_3_code 66 (.aload_n 0) 1 67 := ⟨by decide +kernel, rfl⟩
theorem dPag_become_67 : uD prog_5_method_3_code 67 (.getfield 35) 3 70 := ⟨by decide +kernel, rfl⟩
theorem dPag_become_70 : uD prog_5_method_3_code 70 (.aload_n 1) 1 71 := ⟨by decide +kernel, rfl⟩
theorem dPag_become_71 : uD prog_5_method_3_code 71 (.getfield 35) 3 74 := ⟨by decide +kernel, rfl⟩
theorem dPag_become_74 : uD prog_5_method_3_code 74 (.invokevirtual 44) 3 77 := ⟨by decide +kernel, rfl⟩
theorem dPag_become_77 : uD prog_5_method_3_code 77 (.aload_n 0) 1 78 := ⟨by decide +kernel, rfl⟩
theorem dPag_become_78 : uD prog_5_method_3_code 78 (.getfield 38) 3 81 := ⟨by decide +kernel, rfl⟩
theorem dPag_become_81 : uD prog_5_method_3_code 81 (.aload_n 1) 1 82 := ⟨by decide +kernel, rfl⟩
theorem dPag_become_82 : uD prog_5_method_3_code 82 (.getfield 38) 3 85 := ⟨by decide +kernel, rfl⟩
theorem dPag_become_85 : uD prog_5_method_3_code 85 (.invokevirtual 44) 3 88 := ⟨by decide +kernel, rfl⟩
theorem dPag_become_88 : uD prog_5_method_3_code 88 (.return_) 1 89 := ⟨by decide +kernel, rfl⟩
theorem dPag_addBox_0 : uD prog_5_method_4_code 0 (.aload_n 0) 1 1 := ⟨by decide +kernel, rfl⟩
theorem dPag_addBox_1 : uD prog_5_method_4_code 1 (.getfield 20) 3 4 := ⟨by decide +kernel, rfl⟩
theorem dPag_addBox_4 : uD prog_5_method_4_code 4 (.iconst 0) 1 5 := ⟨by decide +kernel, rfl⟩
theorem dPag_addBox_5 : uD prog_5_method_4_code 5 (.invokevirtual 48) 3 8 := ⟨by decide +kernel, rfl⟩
theorem dPag_addBox_8 : uD prog_5_method_4_code 8 (.aload_n 0) 1 9 := ⟨by decide +kernel, rfl⟩
theorem dPag_addBox_9 : uD prog_5_method_4_code 9 (.getfield 23) 3 12 := ⟨by decide +kernel, rfl⟩
theorem dPag_addBox_12 : uD prog_5_method_4_code 12 (.iload_n 1) 1 13 := ⟨by decide +kernel, rfl⟩
theorem dPag_addBox_13 : uD prog_5_method_4_code 13 (.invokevirtual 48) 3 16 := ⟨by decide +kernel, rfl⟩
theorem dPag_addBox_16 : uD prog_5_method_4_code 16 (.aload_n 0) 1 17 := ⟨by decide +kernel, rfl⟩
theorem dPag_addBox_17 : uD prog_5_method_4_code 17 (.getfield 26) 3 20 := ⟨by decide +kernel, rfl⟩
theorem dPag_addBox_20 : uD prog_5_method_4_code 20 (.iload_n 2) 1 21 := ⟨by decide +kernel, rfl⟩
theorem dPag_addBox_21 : uD prog_5_method_4_code 21 (.invokevirtual 48) 3 24 := ⟨by decide +kernel, rfl⟩
theorem dPag_addBox_24 : uD prog_5_method_4_code 24 (.aload_n 0) 1 25 := ⟨by decide +kernel, rfl⟩
theorem dPag_addBox_25 : uD prog_5_method_4_code 25 (.getfield 29) 3 28 := ⟨by decide +kernel, rfl⟩
theorem dPag_addBox_28 : uD prog_5_method_4_code 28 (.iload_n 3) 1 29 := ⟨by decide +kernel, rfl⟩
theorem dPag_addBox_29 : uD prog_5_method_4_code 29 (.invokevirtual 48) 3 32 := ⟨by decide +kernel, rfl⟩
theorem dPag_addBox_32 : uD prog_5_method_4_code 32 (.return_) 1 33 := ⟨by decide +kernel, rfl⟩
theorem dPag_addWord_0 : uD prog_5_method_5_code 0 (.aload_n 0) 1 1 := ⟨by decide +kernel, rfl⟩
theorem dPag_addWord_1 : uD prog_5_method_5_code 1 (.getfield 20) 3 4 := ⟨by decide +kernel, rfl⟩
theorem dPag_addWord_4 : uD prog_5_method_5_code 4 (.iconst 1) 1 5 := ⟨by decide +kernel, rfl⟩
theorem dPag_addWord_5 : uD prog_5_method_5_code 5 (.invokevirtual 48) 3 8 := ⟨by decide +kernel, rfl⟩
theorem dPag_addWord_8 : uD prog_5_method_5_code 8 (.aload_n 0) 1 9 := ⟨by decide +kernel, rfl⟩
theorem dPag_addWord_9 : uD prog_5_method_5_code 9 (.getfield 35) 3 12 := ⟨by decide +kernel, rfl⟩
theorem dPag_addWord_12 : uD prog_5_method_5_code 12 (.iload_n 1) 1 13 := ⟨by decide +kernel, rfl⟩
theorem dPag_addWord_13 : uD prog_5_method_5_code 13 (.invokevirtual 48) 3 16 := ⟨by decide +kernel, rfl⟩
theorem dPag_addWord_16 : uD prog_5_method_5_code 16 (.aload_n 0) 1 17 := ⟨by decide +kernel, rfl⟩
theorem dPag_addWord_17 : uD prog_5_method_5_code 17 (.getfield 38) 3 20 := ⟨by decide +kernel, rfl⟩
theorem dPag_addWord_20 : uD prog_5_method_5_code 20 (.iconst 1) 1 21 := ⟨by decide +kernel, rfl⟩
theorem dPag_addWord_21 : uD prog_5_method_5_code 21 (.invokevirtual 48) 3 24 := ⟨by decide +kernel, rfl⟩
theorem dPag_addWord_24 : uD prog_5_method_5_code 24 (.aload_n 0) 1 25 := ⟨by decide +kernel, rfl⟩
theorem dPag_addWord_25 : uD prog_5_method_5_code 25 (.getfield 32) 3 28 := ⟨by decide +kernel, rfl⟩
theorem dPag_addWord_28 : uD prog_5_method_5_code 28 (.iload_n 2) 1 29 := ⟨by decide +kernel, rfl⟩
theorem dPag_addWord_29 : uD prog_5_method_5_code 29 (.invokevirtual 48) 3 32 := ⟨by decide +kernel, rfl⟩
theorem dPag_addWord_32 : uD prog_5_method_5_code 32 (.return_) 1 33 := ⟨by decide +kernel, rfl⟩
theorem dPag_lengthenWord_0 : uD prog_5_method_6_code 0 (.aload_n 0) 1 1 := ⟨by decide +kernel, rfl⟩
theorem dPag_lengthenWord_1 : uD prog_5_method_6_code 1 (.getfield 38) 3 4 := ⟨by decide +kernel, rfl⟩
theorem dPag_lengthenWord_4 : uD prog_5_method_6_code 4 (.aload_n 0) 1 5 := ⟨by decide +kernel, rfl⟩
theorem dPag_lengthenWord_5 : uD prog_5_method_6_code 5 (.getfield 38) 3 8 := ⟨by decide +kernel, rfl⟩
theorem dPag_lengthenWord_8 : uD prog_5_method_6_code 8 (.invokevirtual 51) 3 11 := ⟨by decide +kernel, rfl⟩
theorem dPag_lengthenWord_11 : uD prog_5_method_6_code 11 (.iconst 1) 1 12 := ⟨by decide +kernel, rfl⟩
theorem dPag_lengthenWord_12 : uD prog_5_method_6_code 12 (.isub) 1 13 := ⟨by decide +kernel, rfl⟩
theorem dPag_lengthenWord_13 : uD prog_5_method_6_code 13 (.aload_n 0) 1 14 := ⟨by decide +kernel, rfl⟩
theorem dPag_lengthenWord_14 : uD prog_5_method_6_code 14 (.getfield 38) 3 17 := ⟨by decide +kernel, rfl⟩
theorem dPag_lengthenWord_17 : uD prog_5_method_6_code 17 (.invokevirtual 55) 3 20 := ⟨by decide +kernel, rfl⟩
theorem dPag_lengthenWord_20 : uD prog_5_method_6_code 20 (.iconst 1) 1 21 := ⟨by decide +kernel, rfl⟩
theorem dPag_lengthenWord_21 : uD prog_5_method_6_code 21 (.iadd) 1 22 := ⟨by decide +kernel, rfl⟩
theorem dPag_lengthenWord_22 : uD prog_5_method_6_code 22 (.invokevirtual 58) 3 25 := ⟨by decide +kernel, rfl⟩
theorem dPag_lengthenWord_25 : uD prog_5_method_6_code 25 (.return_) 1 26 := ⟨by decide +kernel, rfl⟩
theorem dPag_keyOfNote_0 : uD prog_5_method_7_code 0 (.aload_n 0) 1 1 := ⟨by decide +kernel, rfl⟩
theorem dPag_keyOfNote_1 : uD prog_5_method_7_code 1 (.getfield 23) 3 4 := ⟨by decide +kernel, rfl⟩
theorem dPag_keyOfNote_4 : uD prog_5_method_7_code 4 (.iload_n 1) 1 5 := ⟨by decide +kernel, rfl⟩
theorem dPag_keyOfNote_5 : uD prog_5_method_7_code 5 (.invokevirtual 62) 3 8 := ⟨by decide +kernel, rfl⟩
theorem dPag_keyOfNote_8 : uD prog_5_method_7_code 8 (.iconst 2) 1 9 := ⟨by decide +kernel, rfl⟩
theorem dPag_keyOfNote_9 : uD prog_5_method_7_code 9 (.iadd) 1 10 := ⟨by decide +kernel, rfl⟩
theorem dPag_keyOfNote_10 : uD prog_5_method_7_code 10 (.iconst 4) 1 11 := ⟨by decide +kernel, rfl⟩
theorem dPag_keyOfNote_11 : uD prog_5_method_7_code 11 (.iload_n 2) 1 12 := ⟨by decide +kernel, rfl⟩
theorem dPag_keyOfNote_12 : uD prog_5_method_7_code 12 (.imul) 1 13 := ⟨by decide +kernel, rfl⟩
theorem dPag_keyOfNote_13 : uD prog_5_method_7_code 13 (.iadd) 1 14 := ⟨by decide +kernel, rfl⟩
theorem dPag_keyOfNote_14 : uD prog_5_method_7_code 14 (.istore_n 3) 1 15 := ⟨by decide +kernel, rfl⟩
theorem dPag_keyOfNote_15 : uD prog_5_method_7_code 15 (.aload_n 0) 1 16 := ⟨by decide +kernel, rfl⟩
theorem dPag_keyOfNote_16 : uD prog_5_method_7_code 16 (.getfield 14) 3 19 := ⟨by decide +kernel, rfl⟩
theorem dPag_keyOfNote_19 : uD prog_5_method_7_code 19 (.iload_n 3) 1 20 := ⟨by decide +kernel, rfl⟩
theorem dPag_keyOfNote_20 : uD prog_5_method_7_code 20 (.invokevirtual 62) 3 23 := ⟨by decide +kernel, rfl⟩
theorem dPag_keyOfNote_23 : uD prog_5_method_7_code 23 (.bipush 32) 2 25 := ⟨by decide +kernel, rfl⟩
theorem dPag_keyOfNote_25 : uB prog_5_method_7_code 25 (.if_icmp .ne) 28 44 := ⟨19, by decide +kernel, rfl, by decide⟩
theorem dPag_keyOfNote_28 : uD prog_5_method_7_code 28 (.aload_n 0) 1 29 := ⟨by decide +kernel, rfl⟩
theorem dPag_keyOfNote_29 : uD prog_5_method_7_code 29 (.getfield 14) 3 32 := ⟨by decide +kernel, rfl⟩
theorem dPag_keyOfNote_32 : uD prog_5_method_7_code 32 (.iload_n 3) 1 33 := ⟨by decide +kernel, rfl⟩
theorem dPag_keyOfNote_33 : uD prog_5_method_7_code 33 (.iconst 1) 1 34 := ⟨by decide +kernel, rfl⟩
theorem dPag_keyOfNote_34 : uD prog_5_method_7_code 34 (.iadd) 1 35 := ⟨by decide +kernel, rfl⟩
theorem dPag_keyOfNote_35 : uD prog_5_method_7_code 35 (.invokevirtual 62) 3 38 := ⟨by decide +kernel, rfl⟩
theorem dPag_keyOfNote_38 : uD prog_5_method_7_code 38 (.bipush 119) 2 40 := ⟨by decide +kernel, rfl⟩
theorem dPag_keyOfNote_40 : uD prog_5_method_7_code 40 (.isub) 1 41 := ⟨by decide +kernel, rfl⟩
theorem dPag_keyOfNote_41 : uB prog_5_method_7_code 41 .goto 44 45 := ⟨4, by decide +kernel, rfl, by decide⟩
theorem dPag_keyOfNote_44 : uD prog_5_method_7_code 44 (.iconst (-1)) 1 45 := ⟨by decide +kernel, rfl⟩
theorem dPag_keyOfNote_45 : uD prog_5_method_7_code 45 (.ireturn) 1 46 := ⟨by decide +kernel, rfl⟩
theorem dPag_valueOfKey_0 : uD prog_5_method_8_code 0 (.iconst 0) 1 1 := ⟨by decide +kernel, rfl⟩
theorem dPag_valueOfKey_1 : uD prog_5_method_8_code 1 (.istore_n 3) 1 2 := ⟨by decide +kernel, rfl⟩
theorem dPag_valueOfKey_2 : uD prog_5_method_8_code 2 (.iload_n 3) 1 3 := ⟨by decide +kernel, rfl⟩
theorem dPag_valueOfKey_3 : uD prog_5_method_8_code 3 (.iconst 4) 1 4 := ⟨by decide +kernel, rfl⟩
theorem dPag_valueOfKey_4 : uB prog_5_method_8_code 4 (.if_icmp .ge) 7 48 := ⟨44, by decide +kernel, rfl, by decide⟩
theorem dPag_valueOfKey_7 : uD prog_5_method_8_code 7 (.aload_n 0) 1 8 := ⟨by decide +kernel, rfl⟩
theorem dPag_valueOfKey_8 : uD prog_5_method_8_code 8 (.iload_n 1) 1 9 := ⟨by decide +kernel, rfl⟩
theorem dPag_valueOfKey_9 : uD prog_5_method_8_code 9 (.iload_n 3) 1 10 := ⟨by decide +kernel, rfl⟩
theorem dPag_valueOfKey_10 : uD prog_5_method_8_code 10 (.invokevirtual 66) 3 13 := ⟨by decide +kernel, rfl⟩
theorem dPag_valueOfKey_13 : uD prog_5_method_8_code 13 (.iload_n 2) 1 14 := ⟨by decide +kernel, rfl⟩
theorem dPag_valueOfKey_14 : uB prog_5_method_8_code 14 (.if_icmp .ne) 17 42 := ⟨28, by decide +kernel, rfl, by decide⟩
theorem dPag_valueOfKey_17 : uD prog_5_method_8_code 17 (.aload_n 0) 1 18 := ⟨by decide +kernel, rfl⟩
theorem dPag_valueOfKey_18 : uD prog_5_method_8_code 18 (.getfield 14) 3 21 := ⟨by decide +kernel, rfl⟩
theorem dPag_valueOfKey_21 : uD prog_5_method_8_code 21 (.aload_n 0) 1 22 := ⟨by decide +kernel, rfl⟩
theorem dPag_valueOfKey_22 : uD prog_5_method_8_code 22 (.getfield 23) 3 25 := ⟨by decide +kernel, rfl⟩
theorem dPag_valueOfKey_25 : uD prog_5_method_8_code 25 (.iload_n 1) 1 26 := ⟨by decide +kernel, rfl⟩
theorem dPag_valueOfKey_26 : uD prog_5_method_8_code 26 (.invokevirtual 62) 3 29 := ⟨by decide +kernel, rfl⟩
theorem dPag_valueOfKey_29 : uD prog_5_method_8_code 29 (.iconst 5) 1 30 := ⟨by decide +kernel, rfl⟩
theorem dPag_valueOfKey_30 : uD prog_5_method_8_code 30 (.iadd) 1 31 := ⟨by decide +kernel, rfl⟩
theorem dPag_valueOfKey_31 : uD prog_5_method_8_code 31 (.iconst 4) 1 32 := ⟨by decide +kernel, rfl⟩
theorem dPag_valueOfKey_32 : uD prog_5_method_8_code 32 (.iload_n 3) 1 33 := ⟨by decide +kernel, rfl⟩
theorem dPag_valueOfKey_33 : uD prog_5_method_8_code 33 (.imul) 1 34 := ⟨by decide +kernel, rfl⟩
theorem dPag_valueOfKey_34 : uD prog_5_method_8_code 34 (.iadd) 1 35 := ⟨by decide +kernel, rfl⟩
theorem dPag_valueOfKey_35 : uD prog_5_method_8_code 35 (.invokevirtual 62) 3 38 := ⟨by decide +kernel, rfl⟩
theorem dPag_valueOfKey_38 : uD prog_5_method_8_code 38 (.bipush 48) 2 40 := ⟨by decide +kernel, rfl⟩
theorem dPag_valueOfKey_40 : uD prog_5_method_8_code 40 (.isub) 1 41 := ⟨by decide +kernel, rfl⟩
theorem dPag_valueOfKey_41 : uD prog_5_method_8_code 41 (.ireturn) 1 42 := ⟨by decide +kernel, rfl⟩
theorem dPag_valueOfKey_42 : uD prog_5_method_8_code 42 (.iinc 3 1) 3 45 := ⟨by decide +kernel, rfl⟩
theorem dPag_valueOfKey_45 : uB prog_5_method_8_code 45 .goto 48 2 := ⟨-43, by decide +kernel, rfl, by decide⟩
theorem dPag_valueOfKey_48 : uD prog_5_method_8_code 48 (.iconst (-1)) 1 49 := ⟨by decide +kernel, rfl⟩
theorem dPag_valueOfKey_49 : uD prog_5_method_8_code 49 (.ireturn) 1 50 := ⟨by decide +kernel, rfl⟩
theorem dPag_keySet_0 : uD prog_5_method_9_code 0 (.iconst 0) 1 1 := ⟨by decide +kernel, rfl⟩
theorem dPag_keySet_1 : uD prog_5_method_9_code 1 (.istore_n 2) 1 2 := ⟨by decide +kernel, rfl⟩
theorem dPag_keySet_2 : uD prog_5_method_9_code 2 (.iconst 0) 1 3 := ⟨by decide +kernel, rfl⟩
theorem dPag_keySet_3 : uD prog_5_method_9_code 3 (.istore_n 3) 1 4 := ⟨by decide +kernel, rfl⟩
theorem dPag_keySet_4 : uD prog_5_method_9_code 4 (.iload_n 3) 1 5 := ⟨by decide +kernel, rfl⟩
theorem dPag_keySet_5 : uD prog_5_method_9_code 5 (.iconst 4) 1 6 := ⟨by decide +kernel, rfl⟩
theorem dPag_keySet_6 : uB prog_5_method_9_code 6 (.if_icmp .ge) 9 38 := ⟨32, by decide +kernel, rfl, by decide⟩
theorem dPag_keySet_9 : uD prog_5_method_9_code 9 (.aload_n 0) 1 10 := ⟨by decide +kernel, rfl⟩
theorem dPag_keySet_10 : uD prog_5_method_9_code 10 (.iload_n 1) 1 11 := ⟨by decide +kernel, rfl⟩
theorem dPag_keySet_11 : uD prog_5_method_9_code 11 (.iload_n 3) 1 12 := ⟨by decide +kernel, rfl⟩
theorem dPag_keySet_12 : uD prog_5_method_9_code 12 (.invokevirtual 66) 3 15 := ⟨by decide +kernel, rfl⟩
theorem dPag_keySet_15 : uD prog_5_method_9_code 15 (.istore 4) 2 17 := ⟨by decide +kernel, rfl⟩
theorem dPag_keySet_17 : uD prog_5_method_9_code 17 (.iload 4) 2 19 := ⟨by decide +kernel, rfl⟩
theorem dPag_keySet_19 : uD prog_5_method_9_code 19 (.iconst (-1)) 1 20 := ⟨by decide +kernel, rfl⟩
theorem dPag_keySet_20 : uB prog_5_method_9_code 20 (.if_icmp .ne) 23 25 := ⟨5, by decide +kernel, rfl, by decide⟩
theorem dPag_keySet_23 : uD prog_5_method_9_code 23 (.iload_n 2) 1 24 := ⟨by decide +kernel, rfl⟩
theorem dPag_keySet_24 : uD prog_5_method_9_code 24 (.ireturn) 1 25 := ⟨by decide +kernel, rfl⟩
theorem dPag_keySet_25 : uD prog_5_method_9_code 25 (.iload_n 2) 1 26 := ⟨by decide +kernel, rfl⟩
theorem dPag_keySet_26 : uD prog_5_method_9_code 26 (.iconst 1) 1 27 := ⟨by decide +kernel, rfl⟩
theorem dPag_keySet_27 : uD prog_5_method_9_code 27 (.iload 4) 2 29 := ⟨by decide +kernel, rfl⟩
theorem dPag_keySet_29 : uD prog_5_method_9_code 29 (.ishl) 1 30 := ⟨by decide +kernel, rfl⟩
theorem dPag_keySet_30 : uD prog_5_method_9_code 30 (.ior) 1 31 := ⟨by decide +kernel, rfl⟩
theorem dPag_keySet_31 : uD prog_5_method_9_code 31 (.istore_n 2) 1 32 := ⟨by decide +kernel, rfl⟩
theorem dPag_keySet_32 : uD prog_5_method_9_code 32 (.iinc 3 1) 3 35 := ⟨by decide +kernel, rfl⟩
theorem dPag_keySet_35 : uB prog_5_method_9_code 35 .goto 38 4 := ⟨-31, by decide +kernel, rfl, by decide⟩
theorem dPag_keySet_38 : uD prog_5_method_9_code 38 (.iload_n 2) 1 39 := ⟨by decide +kernel, rfl⟩
theorem dPag_keySet_39 : uD prog_5_method_9_code 39 (.ireturn) 1 40 := ⟨by decide +kernel, rfl⟩
theorem dPag_orderOfKeys_0 : uD prog_5_method_10_code 0 (.iconst 0) 1 1 := ⟨by decide +kernel, rfl⟩
theorem dPag_orderOfKeys_1 : uD prog_5_method_10_code 1 (.istore_n 3) 1 2 := ⟨by decide +kernel, rfl⟩
theorem dPag_orderOfKeys_2 : uD prog_5_method_10_code 2 (.iconst 0) 1 3 := ⟨by decide +kernel, rfl⟩
theorem dPag_orderOfKeys_3 : uD prog_5_method_10_code 3 (.istore 4) 2 5 := ⟨by decide +kernel, rfl⟩
theorem dPag_orderOfKeys_5 : uD prog_5_method_10_code 5 (.iload 4) 2 7 := ⟨by decide +kernel, rfl⟩
theorem dPag_orderOfKeys_7 : uD prog_5_method_10_code 7 (.iload_n 2) 1 8 := ⟨by decide +kernel, rfl⟩
theorem dPag_orderOfKeys_8 : uB prog_5_method_10_code 8 (.if_icmp .ge) 11 72 := ⟨64, by decide +kernel, rfl, by decide⟩
theorem dPag_orderOfKeys_11 : uD prog_5_method_10_code 11 (.aload_n 0) 1 12 := ⟨by decide +kernel, rfl⟩
theorem dPag_orderOfKeys_12 : uD prog_5_method_10_code 12 (.iload_n 1) 1 13 := ⟨by decide +kernel, rfl⟩
theorem dPag_orderOfKeys_13 : uD prog_5_method_10_code 13 (.iload 4) 2 15 := ⟨by decide +kernel, rfl⟩
theorem dPag_orderOfKeys_15 : uD prog_5_method_10_code 15 (.invokevirtual 66) 3 18 := ⟨by decide +kernel, rfl⟩
theorem dPag_orderOfKeys_18 : uD prog_5_method_10_code 18 (.istore 5) 2 20 := ⟨by decide +kernel, rfl⟩
theorem dPag_orderOfKeys_20 : uD prog_5_method_10_code 20 (.iconst 0) 1 21 := ⟨by decide +kernel, rfl⟩
theorem dPag_orderOfKeys_21 : uD prog_5_method_10_code 21 (.istore 6) 2 23 := ⟨by decide +kernel, rfl⟩
theorem dPag_orderOfKeys_23 : uD prog_5_method_10_code 23 (.iload 4) 2 25 := ⟨by decide +kernel, rfl⟩
theorem dPag_orderOfKeys_25 : uD prog_5_method_10_code 25 (.iconst 1) 1 26 := ⟨by decide +kernel, rfl⟩
theorem dPag_orderOfKeys_26 : uD prog_5_method_10_code 26 (.iadd) 1 27 := ⟨by decide +kernel, rfl⟩
theorem dPag_orderOfKeys_27 : uD prog_5_method_10_code 27 (.istore 7) 2 29 := ⟨by decide +kernel, rfl⟩
theorem dPag_orderOfKeys_29 : uD prog_5_method_10_code 29 (.iload 7) 2 31 := ⟨by decide +kernel, rfl⟩
theorem dPag_orderOfKeys_31 : uD prog_5_method_10_code 31 (.iload_n 2) 1 32 := ⟨by decide +kernel, rfl⟩
theorem dPag_orderOfKeys_32 : uB prog_5_method_10_code 32 (.if_icmp .ge) 35 56 := ⟨24, by decide +kernel, rfl, by decide⟩
theorem dPag_orderOfKeys_35 : uD prog_5_method_10_code 35 (.aload_n 0) 1 36 := ⟨by decide +kernel, rfl⟩
theorem dPag_orderOfKeys_36 : uD prog_5_method_10_code 36 (.iload_n 1) 1 37 := ⟨by decide +kernel, rfl⟩
theorem dPag_orderOfKeys_37 : uD prog_5_method_10_code 37 (.iload 7) 2 39 := ⟨by decide +kernel, rfl⟩
theorem dPag_orderOfKeys_39 : uD prog_5_method_10_code 39 (.invokevirtual 66) 3 42 := ⟨by decide +kernel, rfl⟩
theorem dPag_orderOfKeys_42 : uD prog_5_method_10_code 42 (.iload 5) 2 44 := ⟨by decide +kernel, rfl⟩
theorem dPag_orderOfKeys_44 : uB prog_5_method_10_code 44 (.if_icmp .ge) 47 50 := ⟨6, by decide +kernel, rfl, by decide⟩
theorem dPag_orderOfKeys_47 : uD prog_5_method_10_code 47 (.iinc 6 1) 3 50 := ⟨by decide +kernel, rfl⟩
theorem dPag_orderOfKeys_50 : uD prog_5_method_10_code 50 (.iinc 7 1) 3 53 := ⟨by decide +kernel, rfl⟩
theorem dPag_orderOfKeys_53 : uB prog_5_method_10_code 53 .goto 56 29 := ⟨-24, by decide +kernel, rfl, by decide⟩
theorem dPag_orderOfKeys_56 : uD prog_5_method_10_code 56 (.iload_n 3) 1 57 := ⟨by decide +kernel, rfl⟩
theorem dPag_orderOfKeys_57 : uD prog_5_method_10_code 57 (.iload_n 2) 1 58 := ⟨by decide +kernel, rfl⟩
theorem dPag_orderOfKeys_58 : uD prog_5_method_10_code 58 (.iload 4) 2 60 := ⟨by decide +kernel, rfl⟩
theorem dPag_orderOfKeys_60 : uD prog_5_method_10_code 60 (.isub) 1 61 := ⟨by decide +kernel, rfl⟩
theorem dPag_orderOfKeys_61 : uD prog_5_method_10_code 61 (.imul) 1 62 := ⟨by decide +kernel, rfl⟩
theorem dPag_orderOfKeys_62 : uD prog_5_method_10_code 62 (.iload 6) 2 64 := ⟨by decide +kernel, rfl⟩
theorem dPag_orderOfKeys_64 : uD prog_5_method_10_code 64 (.iadd) 1 65 := ⟨by decide +kernel, rfl⟩
theorem dPag_orderOfKeys_65 : uD prog_5_method_10_code 65 (.istore_n 3) 1 66 := ⟨by decide +kernel, rfl⟩
theorem dPag_orderOfKeys_66 : uD prog_5_method_10_code 66 (.iinc 4 1) 3 69 := ⟨by decide +kernel, rfl⟩
theorem dPag_orderOfKeys_69 : uB prog_5_method_10_code 69 .goto 72 5 := ⟨-64, by decide +kernel, rfl, by decide⟩
theorem dPag_orderOfKeys_72 : uD prog_5_method_10_code 72 (.iload_n 3) 1 73 := ⟨by decide +kernel, rfl⟩
theorem dPag_orderOfKeys_73 : uD prog_5_method_10_code 73 (.ireturn) 1 74 := ⟨by decide +kernel, rfl⟩
theorem dPag_boxInside_0 : uD prog_5_method_11_code 0 (.iconst 0) 1 1 := ⟨by decide +kernel, rfl⟩
theorem dPag_boxInside_1 : uD prog_5_method_11_code 1 (.istore 4) 2 3 := ⟨by decide +kernel, rfl⟩
theorem dPag_boxInside_3 : uD prog_5_method_11_code 3 (.iconst 0) 1 4 := ⟨by decide +kernel, rfl⟩
theorem dPag_boxInside_4 : uD prog_5_method_11_code 4 (.istore 5) 2 6 := ⟨by decide +kernel, rfl⟩
theorem dPag_boxInside_6 : uD prog_5_method_11_code 6 (.iload 5) 2 8 := ⟨by decide +kernel, rfl⟩
theorem dPag_boxInside_8 : uD prog_5_method_11_code 8 (.aload_n 0) 1 9 := ⟨by decide +kernel, rfl⟩
theorem dPag_boxInside_9 : uD prog_5_method_11_code 9 (.getfield 26) 3 12 := ⟨by decide +kernel, rfl⟩
theorem dPag_boxInside_12 : uD prog_5_method_11_code 12 (.invokevirtual 51) 3 15 := ⟨by decide +kernel, rfl⟩
theorem dPag_boxInside_15 : uB prog_5_method_11_code 15 (.if_icmp .ge) 18 62 := ⟨47, by decide +kernel, rfl, by decide⟩
theorem dPag_boxInside_18 : uD prog_5_method_11_code 18 (.aload_n 0) 1 19 := ⟨by decide +kernel, rfl⟩
theorem dPag_boxInside_19 : uD prog_5_method_11_code 19 (.getfield 29) 3 22 := ⟨by decide +kernel, rfl⟩
theorem dPag_boxInside_22 : uD prog_5_method_11_code 22 (.iload 5) 2 24 := ⟨by decide +kernel, rfl⟩
theorem dPag_boxInside_24 : uD prog_5_method_11_code 24 (.invokevirtual 62) 3 27 := ⟨by decide +kernel, rfl⟩
theorem dPag_boxInside_27 : uD prog_5_method_11_code 27 (.iload_n 1) 1 28 := ⟨by decide +kernel, rfl⟩
theorem dPag_boxInside_28 : uB prog_5_method_11_code 28 (.if_icmp .ne) 31 56 := ⟨28, by decide +kernel, rfl, by decide⟩
theorem dPag_boxInside_31 : uD prog_5_method_11_code 31 (.aload_n 0) 1 32 := ⟨by decide +kernel, rfl⟩
theorem dPag_boxInside_32 : uD prog_5_method_11_code 32 (.getfield 26) 3 35 := ⟨by decide +kernel, rfl⟩
theorem dPag_boxInside_35 : uD prog_5_method_11_code 35 (.iload 5) 2 37 := ⟨by decide +kernel, rfl⟩
theorem dPag_boxInside_37 : uD prog_5_method_11_code 37 (.invokevirtual 62) 3 40 := ⟨by decide +kernel, rfl⟩
theorem dPag_boxInside_40 : uD prog_5_method_11_code 40 (.iload_n 2) 1 41 := ⟨by decide +kernel, rfl⟩
theorem dPag_boxInside_41 : uB prog_5_method_11_code 41 (.if_icmp .ne) 44 56 := ⟨15, by decide +kernel, rfl, by decide⟩
theorem dPag_boxInside_44 : uD prog_5_method_11_code 44 (.iinc 4 1) 3 47 := ⟨by decide +kernel, rfl⟩
theorem dPag_boxInside_47 : uD prog_5_method_11_code 47 (.iload 4) 2 49 := ⟨by decide +kernel, rfl⟩
theorem dPag_boxInside_49 : uD prog_5_method_11_code 49 (.iload_n 3) 1 50 := ⟨by decide +kernel, rfl⟩
theorem dPag_boxInside_50 : uB prog_5_method_11_code 50 (.if_icmp .ne) 53 56 := ⟨6, by decide +kernel, rfl, by decide⟩
theorem dPag_boxInside_53 : uD prog_5_method_11_code 53 (.iload 5) 2 55 := ⟨by decide +kernel, rfl⟩
theorem dPag_boxInside_55 : uD prog_5_method_11_code 55 (.ireturn) 1 56 := ⟨by decide +kernel, rfl⟩
theorem dPag_boxInside_56 : uD prog_5_method_11_code 56 (.iinc 5 1) 3 59 := ⟨by decide +kernel, rfl⟩
theorem dPag_boxInside_59 : uB prog_5_method_11_code 59 .goto 62 6 := ⟨-53, by decide +kernel, rfl, by decide⟩
theorem dPag_boxInside_62 : uD prog_5_method_11_code 62 (.iconst (-1)) 1 63 := ⟨by decide +kernel, rfl⟩
theorem dPag_boxInside_63 : uD prog_5_method_11_code 63 (.ireturn) 1 64 := ⟨by decide +kernel, rfl⟩
theorem dPth_init_0 : uD prog_6_method_1_code 0 (.aload_n 0) 1 1 := ⟨by decide +kernel, rfl⟩
theorem dPth_init_1 : uD prog_6_method_1_code 1 (.invokespecial 3) 3 4 := ⟨by decide +kernel, rfl⟩
theorem dPth_init_4 : uD prog_6_method_1_code 4 (.aload_n 0) 1 5 := ⟨by decide +kernel, rfl⟩
theorem dPth_init_5 : uD prog_6_method_1_code 5 (.new 9) 3 8 := ⟨by decide +kernel, rfl⟩
theorem dPth_init_8 : uD prog_6_method_1_code 8 (.dup) 1 9 := ⟨by decide +kernel, rfl⟩
theorem dPth_init_9 : uD prog_6_method_1_code 9 (.bipush 100) 2 11 := ⟨by decide +kernel, rfl⟩
theorem dPth_init_11 : uD prog_6_method_1_code 11 (.invokespecial 11) 3 14 := ⟨by decide +kernel, rfl⟩
theorem dPth_init_14 : uD prog_6_method_1_code 14 (.putfield 14) 3 17 := ⟨by decide +kernel, rfl⟩
theorem dPth_init_17 : uD prog_6_method_1_code 17 (.aload_n 0) 1 18 := ⟨by decide +kernel, rfl⟩
theorem dPth_init_18 : uD prog_6_method_1_code 18 (.new 9) 3 21 := ⟨by decide +kernel, rfl⟩
theorem dPth_init_21 : uD prog_6_method_1_code 21 (.dup) 1 22 := ⟨by decide +kernel, rfl⟩
theorem dPth_init_22 : uD prog_6_method_1_code 22 (.bipush 100) 2 24 := ⟨by decide +kernel, rfl⟩
theorem dPth_init_24 : uD prog_6_method_1_code 24 (.invokespecial 11) 3 27 := ⟨by decide +kernel, rfl⟩
theorem dPth_init_27 : uD prog_6_method_1_code 27 (.putfield 20) 3 30 := ⟨by decide +kernel, rfl⟩
theorem dPth_init_30 : uD prog_6_method_1_code 30 (.return_) 1 31 := ⟨by decide +kernel, rfl⟩
theorem dPth_readFault_0 : uD prog_6_method_2_code 0 (.aload_n 0) 1 1 := ⟨by decide +kernel, rfl⟩
theorem dPth_readFault_1 : uD prog_6_method_2_code 1 (.getfield 14) 3 4 := ⟨by decide +kernel, rfl⟩
theorem dPth_readFault_4 : uD prog_6_method_2_code 4 (.invokevirtual 23) 3 7 := ⟨by decide +kernel, rfl⟩
theorem dPth_readFault_7 : uD prog_6_method_2_code 7 (.aload_n 0) 1 8 := ⟨by decide +kernel, rfl⟩
theorem dPth_readFault_8 : uD prog_6_method_2_code 8 (.getfield 20) 3 11 := ⟨by decide +kernel, rfl⟩
theorem dPth_readFault_11 : uD prog_6_method_2_code 11 (.invokevirtual 23) 3 14 := ⟨by decide +kernel, rfl⟩
theorem dPth_readFault_14 : uD prog_6_method_2_code 14 (.aload_n 0) 1 15 := ⟨by decide +kernel, rfl⟩
theorem dPth_readFault_15 : uD prog_6_method_2_code 15 (.iconst 0) 1 16 := ⟨by decide +kernel, rfl⟩
theorem dPth_readFault_16 : uD prog_6_method_2_code 16 (.putfield 26) 3 19 := ⟨by decide +kernel, rfl⟩
theorem dPth_readFault_19 : uD prog_6_method_2_code 19 (.iconst 0) 1 20 := ⟨by decide +kernel, rfl⟩
theorem dPth_readFault_20 : uD prog_6_method_2_code 20 (.istore_n 2) 1 21 := ⟨by decide +kernel, rfl⟩
theorem dPth_readFault_21 : uD prog_6_method_2_code 21 (.iload_n 2) 1 22 := ⟨by decide +kernel, rfl⟩
theorem dPth_readFault_22 : uD prog_6_method_2_code 22 (.aload_n 1) 1 23 := ⟨by decide +kernel, rfl⟩
theorem dPth_readFault_23 : uD prog_6_method_2_code 23 (.invokevirtual 30) 3 26 := ⟨by decide +kernel, rfl⟩
theorem dPth_readFault_26 : uB prog_6_method_2_code 26 (.if_icmp .ge) 29 49 := ⟨23, by decide +kernel, rfl, by decide⟩
theorem dPth_readFault_29 : uD prog_6_method_2_code 29 (.aload_n 0) 1 30 := ⟨by decide +kernel, rfl⟩
theorem dPth_readFault_30 : uD prog_6_method_2_code 30 (.aload_n 1) 1 31 := ⟨by decide +kernel, rfl⟩
theorem dPth_readFault_31 : uD prog_6_method_2_code 31 (.iload_n 2) 1 32 := ⟨by decide +kernel, rfl⟩
theorem dPth_readFault_32 : uD prog_6_method_2_code 32 (.invokevirtual 34) 3 35 := ⟨by decide +kernel, rfl⟩
theorem dPth_readFault_35 : uD prog_6_method_2_code 35 (.invokevirtual 38) 3 38 := ⟨by decide +kernel, rfl⟩
theorem dPth_readFault_38 : uB prog_6_method_2_code 38 (.ifCond .ne) 41 43 := ⟨5, by decide +kernel, rfl, by decide⟩
theorem dPth_readFault_41 : uD prog_6_method_2_code 41 (.iload_n 2) 1 42 := ⟨by decide +kernel, rfl⟩
theorem dPth_readFault_42 : uD prog_6_method_2_code 42 (.ireturn) 1 43 := ⟨by decide +kernel, rfl⟩
theorem dPth_readFault_43 : uD prog_6_method_2_code 43 (.iinc 2 1) 3 46 := ⟨by decide +kernel, rfl⟩
theorem dPth_readFault_46 : uB prog_6_method_2_code 46 .goto 49 21 := ⟨-25, by decide +kernel, rfl, by decide⟩
theorem dPth_readFault_49 : uD prog_6_method_2_code 49 (.aload_n 0) 1 50 := ⟨by decide +kernel, rfl⟩
theorem dPth_readFault_50 : uD prog_6_method_2_code 50 (.getfield 26) 3 53 := ⟨by decide +kernel, rfl⟩
theorem dPth_readFault_53 : uB prog_6_method_2_code 53 (.ifCond .ne) 56 63 := ⟨10, by decide +kernel, rfl, by decide⟩
theorem dPth_readFault_56 : uD prog_6_method_2_code 56 (.aload_n 1) 1 57 := ⟨by decide +kernel, rfl⟩
theorem dPth_readFault_57 : uD prog_6_method_2_code 57 (.invokevirtual 30) 3 60 := ⟨by decide +kernel, rfl⟩
theorem dPth_readFault_60 : uB prog_6_method_2_code 60 .goto 63 64 := ⟨4, by decide +kernel, rfl, by decide⟩
theorem dPth_readFault_63 : uD prog_6_method_2_code 63 (.iconst (-1)) 1 64 := ⟨by decide +kernel, rfl⟩
theorem dPth_readFault_64 : uD prog_6_method_2_code 64 (.ireturn) 1 65 := ⟨by decide +kernel, rfl⟩
theorem dPth_partCount_0 : uD prog_6_method_3_code 0 (.aload_n 0) 1 1 := ⟨by decide +kernel, rfl⟩
theorem dPth_partCount_1 : uD prog_6_method_3_code 1 (.getfield 14) 3 4 := ⟨by decide +kernel, rfl⟩
theorem dPth_partCount_4 : uD prog_6_method_3_code 4 (.invokevirtual 30) 3 7 := ⟨by decide +kernel, rfl⟩
theorem dPth_partCount_7 : uD prog_6_method_3_code 7 (.ireturn) 1 8 := ⟨by decide +kernel, rfl⟩
theorem dPth_boxIn_0 : uD prog_6_method_4_code 0 (.aload_n 0) 1 1 := ⟨by decide +kernel, rfl⟩
theorem dPth_boxIn_1 : uD prog_6_method_4_code 1 (.getfield 14) 3 4 := ⟨by decide +kernel, rfl⟩
theorem dPth_boxIn_4 : uD prog_6_method_4_code 4 (.iconst 0) 1 5 := ⟨by decide +kernel, rfl⟩
theorem dPth_boxIn_5 : uD prog_6_method_4_code 5 (.invokevirtual 34) 3 8 := ⟨by decide +kernel, rfl⟩
theorem dPth_boxIn_8 : uD prog_6_method_4_code 8 (.aload_n 1) 1 9 := ⟨by decide +kernel, rfl⟩
theorem dPth_boxIn_9 : uD prog_6_method_4_code 9 (.getfield 42) 3 12 := ⟨by decide +kernel, rfl⟩
theorem dPth_boxIn_12 : uD prog_6_method_4_code 12 (.iconst 0) 1 13 := ⟨by decide +kernel, rfl⟩
theorem dPth_boxIn_13 : uD prog_6_method_4_code 13 (.invokevirtual 34) 3 16 := ⟨by decide +kernel, rfl⟩
theorem dPth_boxIn_16 : uB prog_6_method_4_code 16 (.if_icmp .ne) 19 35 := ⟨19, by decide +kernel, rfl, by decide⟩
theorem dPth_boxIn_19 : uD prog_6_method_4_code 19 (.aload_n 0) 1 20 := ⟨by decide +kernel, rfl⟩
theorem dPth_boxIn_20 : uD prog_6_method_4_code 20 (.getfield 20) 3 23 := ⟨by decide +kernel, rfl⟩
theorem dPth_boxIn_23 : uD prog_6_method_4_code 23 (.iconst 0) 1 24 := ⟨by decide +kernel, rfl⟩
theorem dPth_boxIn_24 : uD prog_6_method_4_code 24 (.invokevirtual 34) 3 27 := ⟨by decide +kernel, rfl⟩
theorem dPth_boxIn_27 : uD prog_6_method_4_code 27 (.iconst 1) 1 28 := ⟨by decide +kernel, rfl⟩
theorem dPth_boxIn_28 : uB prog_6_method_4_code 28 (.if_icmp .ne) 31 35 := ⟨7, by decide +kernel, rfl, by decide⟩
theorem dPth_boxIn_31 : uD prog_6_method_4_code 31 (.iconst 1) 1 32 := ⟨by decide +kernel, rfl⟩
theorem dPth_boxIn_32 : uB prog_6_method_4_code 32 .goto 35 36 := ⟨4, by decide +kernel, rfl, by decide⟩
theorem dPth_boxIn_35 : uD prog_6_method_4_code 35 (.iconst 0) 1 36 := ⟨by decide +kernel, rfl⟩
theorem dPth_boxIn_36 : uD prog_6_method_4_code 36 (.istore_n 2) 1 37 := ⟨by decide +kernel, rfl⟩
theorem dPth_boxIn_37 : uD prog_6_method_4_code 37 (.iload_n 2) 1 38 := ⟨by decide +kernel, rfl⟩
theorem dPth_boxIn_38 : uB prog_6_method_4_code 38 (.ifCond .eq) 41 45 := ⟨7, by decide +kernel, rfl, by decide⟩
theorem dPth_boxIn_41 : uD prog_6_method_4_code 41 (.iconst 0) 1 42 := ⟨by decide +kernel, rfl⟩
theorem dPth_boxIn_42 : uB prog_6_method_4_code 42 .goto 45 46 := ⟨4, by decide +kernel, rfl, by decide⟩
theorem dPth_boxIn_45 : uD prog_6_method_4_code 45 (.iconst (-1)) 1 46 := ⟨by decide +kernel, rfl⟩
theorem dPth_boxIn_46 : uD prog_6_method_4_code 46 (.istore_n 3) 1 47 := ⟨by decide +kernel, rfl⟩
theorem dPth_boxIn_47 : uD prog_6_method_4_code 47 (.iconst 1) 1 48 := ⟨by decide +kernel, rfl⟩
theorem dPth_boxIn_48 : uD prog_6_method_4_code 48 (.istore 4) 2 50 := ⟨by decide +kernel, rfl⟩
theorem dPth_boxIn_50 : uD prog_6_method_4_code 50 (.iload 4) 2 52 := ⟨by decide +kernel, rfl⟩
theorem dPth_boxIn_52 : uD prog_6_method_4_code 52 (.aload_n 0) 1 53 := ⟨by decide +kernel, rfl⟩
theorem dPth_boxIn_53 : uD prog_6_method_4_code 53 (.getfield 14) 3 56 := ⟨by decide +kernel, rfl⟩
theorem dPth_boxIn_56 : uD prog_6_method_4_code 56 (.invokevirtual 30) 3 59 := ⟨by decide +kernel, rfl⟩
theorem dPth_boxIn_59 : uB prog_6_method_4_code 59 (.if_icmp .ge) 62 97 := ⟨38, by decide +kernel, rfl, by decide⟩
theorem dPth_boxIn_62 : uD prog_6_method_4_code 62 (.iload_n 3) 1 63 := ⟨by decide +kernel, rfl⟩
theorem dPth_boxIn_63 : uD prog_6_method_4_code 63 (.iconst (-1)) 1 64 := ⟨by decide +kernel, rfl⟩
theorem dPth_boxIn_64 : uB prog_6_method_4_code 64 (.if_icmp .eq) 67 97 := ⟨33, by decide +kernel, rfl, by decide⟩
theorem dPth_boxIn_67 : uD prog_6_method_4_code 67 (.aload_n 1) 1 68 := ⟨by decide +kernel, rfl⟩
theorem dPth_boxIn_68 : uD prog_6_method_4_code 68 (.iload_n 3) 1 69 := ⟨by decide +kernel, rfl⟩
theorem dPth_boxIn_69 : uD prog_6_method_4_code 69 (.aload_n 0) 1 70 := ⟨by decide +kernel, rfl⟩
theorem dPth_boxIn_70 : uD prog_6_method_4_code 70 (.getfield 14) 3 73 := ⟨by decide +kernel, rfl⟩
theorem dPth_boxIn_73 : uD prog_6_method_4_code 73 (.iload 4) 2 75 := ⟨by decide +kernel, rfl⟩
theorem dPth_boxIn_75 : uD prog_6_method_4_code 75 (.invokevirtual 34) 3 78 := ⟨by decide +kernel, rfl⟩
theorem dPth_boxIn_78 : uD prog_6_method_4_code 78 (.aload_n 0) 1 79 := ⟨by decide +kernel, rfl⟩
theorem dPth_boxIn_79 : uD prog_6_method_4_code 79 (.getfield 20) 3 82 := ⟨by decide +kernel, rfl⟩
theorem dPth_boxIn_82 : uD prog_6_method_4_code 82 (.iload 4) 2 84 := ⟨by decide +kernel, rfl⟩
theorem dPth_boxIn_84 : uD prog_6_method_4_code 84 (.invokevirtual 34) 3 87 := ⟨by decide +kernel, rfl⟩
theorem dPth_boxIn_87 : uD prog_6_method_4_code 87 (.invokevirtual 47) 3 90 := ⟨by decide +kernel, rfl⟩
theorem dPth_boxIn_90 : uD prog_6_method_4_code 90 (.istore_n 3) 1 91 := ⟨by decide +kernel, rfl⟩
theorem dPth_boxIn_91 : uD prog_6_method_4_code 91 (.iinc 4 1) 3 94 := ⟨by decide +kernel, rfl⟩
theorem dPth_boxIn_94 : uB prog_6_method_4_code 94 .goto 97 50 := ⟨-44, by decide +kernel, rfl, by decide⟩
theorem dPth_boxIn_97 : uD prog_6_method_4_code 97 (.iload_n 3) 1 98 := ⟨by decide +kernel, rfl⟩
theorem dPth_boxIn_98 : uD prog_6_method_4_code 98 (.ireturn) 1 99 := ⟨by decide +kernel, rfl⟩
theorem dPth_takes_0 : uD prog_6_method_5_code 0 (.aload_n 0) 1 1 := ⟨by decide +kernel, rfl⟩
theorem dPth_takes_1 : uD prog_6_method_5_code 1 (.getfield 26) 3 4 := ⟨by decide +kernel, rfl⟩
theorem dPth_takes_4 : uB prog_6_method_5_code 4 (.ifCond .ne) 7 40 := ⟨36, by decide +kernel, rfl, by decide⟩
theorem dPth_takes_7 : uD prog_6_method_5_code 7 (.iload_n 1) 1 8 := ⟨by decide +kernel, rfl⟩
theorem dPth_takes_8 : uD prog_6_method_5_code 8 (.invokestatic 51) 3 11 := ⟨by decide +kernel, rfl⟩
theorem dPth_takes_11 : uB prog_6_method_5_code 11 (.ifCond .eq) 14 40 := ⟨29, by decide +kernel, rfl, by decide⟩
theorem dPth_takes_14 : uD prog_6_method_5_code 14 (.aload_n 0) 1 15 := ⟨by decide +kernel, rfl⟩
theorem dPth_takes_15 : uD prog_6_method_5_code 15 (.getfield 14) 3 18 := ⟨by decide +kernel, rfl⟩
theorem dPth_takes_18 : uD prog_6_method_5_code 18 (.iload_n 1) 1 19 := ⟨by decide +kernel, rfl⟩
theorem dPth_takes_19 : uD prog_6_method_5_code 19 (.bipush 97) 2 21 := ⟨by decide +kernel, rfl⟩
theorem dPth_takes_21 : uD prog_6_method_5_code 21 (.isub) 1 22 := ⟨by decide +kernel, rfl⟩
theorem dPth_takes_22 : uD prog_6_method_5_code 22 (.invokevirtual 54) 3 25 := ⟨by decide +kernel, rfl⟩
theorem dPth_takes_25 : uD prog_6_method_5_code 25 (.aload_n 0) 1 26 := ⟨by decide +kernel, rfl⟩
theorem dPth_takes_26 : uD prog_6_method_5_code 26 (.getfield 20) 3 29 := ⟨by decide +kernel, rfl⟩
theorem dPth_takes_29 : uD prog_6_method_5_code 29 (.iconst 1) 1 30 := ⟨by decide +kernel, rfl⟩
theorem dPth_takes_30 : uD prog_6_method_5_code 30 (.invokevirtual 54) 3 33 := ⟨by decide +kernel, rfl⟩
theorem dPth_takes_33 : uD prog_6_method_5_code 33 (.aload_n 0) 1 34 := ⟨by decide +kernel, rfl⟩
theorem dPth_takes_34 : uD prog_6_method_5_code 34 (.iconst 1) 1 35 := ⟨by decide +kernel, rfl⟩
theorem dPth_takes_35 : uD prog_6_method_5_code 35 (.putfield 26) 3 38 := ⟨by decide +kernel, rfl⟩
theorem dPth_takes_38 : uD prog_6_method_5_code 38 (.iconst 1) 1 39 := ⟨by decide +kernel, rfl⟩
theorem dPth_takes_39 : uD prog_6_method_5_code 39 (.ireturn) 1 40 := ⟨by decide +kernel, rfl⟩
theorem dPth_takes_40 : uD prog_6_method_5_code 40 (.aload_n 0) 1 41 := ⟨by decide +kernel, rfl⟩
theorem dPth_takes_41 : uD prog_6_method_5_code 41 (.getfield 26) 3 44 := ⟨by decide +kernel, rfl⟩
theorem dPth_takes_44 : uD prog_6_method_5_code 44 (.iconst 1) 1 45 := ⟨by decide +kernel, rfl⟩
theorem dPth_takes_45 : uB prog_6_method_5_code 45 (.if_icmp .ne) 48 87 := ⟨42, by decide +kernel, rfl, by decide⟩
theorem dPth_takes_48 : uD prog_6_method_5_code 48 (.iload_n 1) 1 49 := ⟨by decide +kernel, rfl⟩
theorem dPth_takes_49 : uD prog_6_method_5_code 49 (.bipush 49) 2 51 := ⟨by decide +kernel, rfl⟩
theorem dPth_takes_51 : uB prog_6_method_5_code 51 (.if_icmp .lt) 54 87 := ⟨36, by decide +kernel, rfl, by decide⟩
theorem dPth_takes_54 : uD prog_6_method_5_code 54 (.iload_n 1) 1 55 := ⟨by decide +kernel, rfl⟩
theorem dPth_takes_55 : uD prog_6_method_5_code 55 (.bipush 57) 2 57 := ⟨by decide +kernel, rfl⟩
theorem dPth_takes_57 : uB prog_6_method_5_code 57 (.if_icmp .gt) 60 87 := ⟨30, by decide +kernel, rfl, by decide⟩
theorem dPth_takes_60 : uD prog_6_method_5_code 60 (.aload_n 0) 1 61 := ⟨by decide +kernel, rfl⟩
theorem dPth_takes_61 : uD prog_6_method_5_code 61 (.getfield 20) 3 64 := ⟨by decide +kernel, rfl⟩
theorem dPth_takes_64 : uD prog_6_method_5_code 64 (.aload_n 0) 1 65 := ⟨by decide +kernel, rfl⟩
theorem dPth_takes_65 : uD prog_6_method_5_code 65 (.getfield 20) 3 68 := ⟨by decide +kernel, rfl⟩
theorem dPth_takes_68 : uD prog_6_method_5_code 68 (.invokevirtual 30) 3 71 := ⟨by decide +kernel, rfl⟩
theorem dPth_takes_71 : uD prog_6_method_5_code 71 (.iconst 1) 1 72 := ⟨by decide +kernel, rfl⟩
theorem dPth_takes_72 : uD prog_6_method_5_code 72 (.isub) 1 73 := ⟨by decide +kernel, rfl⟩
theorem dPth_takes_73 : uD prog_6_method_5_code 73 (.iload_n 1) 1 74 := ⟨by decide +kernel, rfl⟩
theorem dPth_takes_74 : uD prog_6_method_5_code 74 (.bipush 48) 2 76 := ⟨by decide +kernel, rfl⟩
theorem dPth_takes_76 : uD prog_6_method_5_code 76 (.isub) 1 77 := ⟨by decide +kernel, rfl⟩
theorem dPth_takes_77 : uD prog_6_method_5_code 77 (.invokevirtual 57) 3 80 := ⟨by decide +kernel, rfl⟩
theorem dPth_takes_80 : uD prog_6_method_5_code 80 (.aload_n 0) 1 81 := ⟨by decide +kernel, rfl⟩
theorem dPth_takes_81 : uD prog_6_method_5_code 81 (.iconst 2) 1 82 := ⟨by decide +kernel, rfl⟩
theorem dPth_takes_82 : uD prog_6_method_5_code 82 (.putfield 26) 3 85 := ⟨by decide +kernel, rfl⟩
theorem dPth_takes_85 : uD prog_6_method_5_code 85 (.iconst 1) 1 86 := ⟨by decide +kernel, rfl⟩
theorem dPth_takes_86 : uD prog_6_method_5_code 86 (.ireturn) 1 87 := ⟨by decide +kernel, rfl⟩
theorem dPth_takes_87 : uD prog_6_method_5_code 87 (.aload_n 0) 1 88 := ⟨by decide +kernel, rfl⟩
theorem dPth_takes_88 : uD prog_6_method_5_code 88 (.getfield 26) 3 91 := ⟨by decide +kernel, rfl⟩
theorem dPth_takes_91 : uB prog_6_method_5_code 91 (.ifCond .eq) 94 107 := ⟨16, by decide +kernel, rfl, by decide⟩
theorem dPth_takes_94 : uD prog_6_method_5_code 94 (.iload_n 1) 1 95 := ⟨by decide +kernel, rfl⟩
theorem dPth_takes_95 : uD prog_6_method_5_code 95 (.bipush 47) 2 97 := ⟨by decide +kernel, rfl⟩
theorem dPth_takes_97 : uB prog_6_method_5_code 97 (.if_icmp .ne) 100 107 := ⟨10, by decide +kernel, rfl, by decide⟩
theorem dPth_takes_100 : uD prog_6_method_5_code 100 (.aload_n 0) 1 101 := ⟨by decide +kernel, rfl⟩
theorem dPth_takes_101 : uD prog_6_method_5_code 101 (.iconst 0) 1 102 := ⟨by decide +kernel, rfl⟩
theorem dPth_takes_102 : uD prog_6_method_5_code 102 (.putfield 26) 3 105 := ⟨by decide +kernel, rfl⟩
theorem dPth_takes_105 : uD prog_6_method_5_code 105 (.iconst 1) 1 106 := ⟨by decide +kernel, rfl⟩
theorem dPth_takes_106 : uD prog_6_method_5_code 106 (.ireturn) 1 107 := ⟨by decide +kernel, rfl⟩
theorem dPth_takes_107 : uD prog_6_method_5_code 107 (.iconst 0) 1 108 := ⟨by decide +kernel, rfl⟩
theorem dPth_takes_108 : uD prog_6_method_5_code 108 (.ireturn) 1 109 := ⟨by decide +kernel, rfl⟩
theorem dRea_init_0 : uD prog_7_method_1_code 0 (.aload_n 0) 1 1 := ⟨by decide +kernel, rfl⟩
theorem dRea_init_1 : uD prog_7_method_1_code 1 (.invokespecial 3) 3 4 := ⟨by decide +kernel, rfl⟩
theorem dRea_init_4 : uD prog_7_method_1_code 4 (.aload_n 0) 1 5 := ⟨by decide +kernel, rfl⟩
theorem dRea_init_5 : uD prog_7_method_1_code 5 (.new 9) 3 8 := ⟨by decide +kernel, rfl⟩
theorem dRea_init_8 : uD prog_7_method_1_code 8 (.dup) 1 9 := ⟨by decide +kernel, rfl⟩
theorem dRea_init_9 : uD prog_7_method_1_code 9 (.invokespecial 11) 3 12 := ⟨by decide +kernel, rfl⟩
theorem dRea_init_12 : uD prog_7_method_1_code 12 (.putfield 12) 3 15 := ⟨by decide +kernel, rfl⟩
theorem dRea_init_15 : uD prog_7_method_1_code 15 (.aload_n 0) 1 16 := ⟨by decide +kernel, rfl⟩
theorem dRea_init_16 : uD prog_7_method_1_code 16 (.iconst (-1)) 1 17 := ⟨by decide +kernel, rfl⟩
theorem dRea_init_17 : uD prog_7_method_1_code 17 (.putfield 18) 3 20 := ⟨by decide +kernel, rfl⟩
theorem dRea_init_20 : uD prog_7_method_1_code 20 (.aload_n 0) 1 21 := ⟨by decide +kernel, rfl⟩
theorem dRea_init_21 : uD prog_7_method_1_code 21 (.new 22) 3 24 := ⟨by decide +kernel, rfl⟩
theorem dRea_init_24 : uD prog_7_method_1_code 24 (.dup) 1 25 := ⟨by decide +kernel, rfl⟩
theorem dRea_init_25 : uD prog_7_method_1_code 25 (.bipush 6) 2 27 := ⟨by decide +kernel, rfl⟩
theorem dRea_init_27 : uD prog_7_method_1_code 27 (.invokespecial 24) 3 30 := ⟨by decide +kernel, rfl⟩
theorem dRea_init_30 : uD prog_7_method_1_code 30 (.putfield 27) 3 33 := ⟨by decide +kernel, rfl⟩
theorem dRea_init_33 : uD prog_7_method_1_code 33 (.aload_n 0) 1 34 := ⟨by decide +kernel, rfl⟩
theorem dRea_init_34 : uD prog_7_method_1_code 34 (.new 22) 3 37 := ⟨by decide +kernel, rfl⟩
theorem dRea_init_37 : uD prog_7_method_1_code 37 (.dup) 1 38 := ⟨by decide +kernel, rfl⟩
theorem dRea_init_38 : uD prog_7_method_1_code 38 (.iconst 4) 1 39 := ⟨by decide +kernel, rfl⟩
theorem dRea_init_39 : uD prog_7_method_1_code 39 (.invokespecial 24) 3 42 := ⟨by decide +kernel, rfl⟩
theorem dRea_init_42 : uD prog_7_method_1_code 42 (.putfield 31) 3 45 := ⟨by decide +kernel, rfl⟩
theorem dRea_init_45 : uD prog_7_method_1_code 45 (.return_) 1 46 := ⟨by decide +kernel, rfl⟩
theorem dRea_hasFault_0 : uD prog_7_method_2_code 0 (.aload_n 0) 1 1 := ⟨by decide +kernel, rfl⟩
theorem dRea_hasFault_1 : uD prog_7_method_2_code 1 (.getfield 18) 3 4 := ⟨by decide +kernel, rfl⟩
theorem dRea_hasFault_4 : uD prog_7_method_2_code 4 (.iconst (-1)) 1 5 := ⟨by decide +kernel, rfl⟩
theorem dRea_hasFault_5 : uB prog_7_method_2_code 5 (.if_icmp .eq) 8 12 := ⟨7, by decide +kernel, rfl, by decide⟩
theorem dRea_hasFault_8 : uD prog_7_method_2_code 8 (.iconst 1) 1 9 := ⟨by decide +kernel, rfl⟩
theorem dRea_hasFault_9 : uB prog_7_method_2_code 9 .goto 12 13 := ⟨4, by decide +kernel, rfl, by decide⟩
theorem dRea_hasFault_12 : uD prog_7_method_2_code 12 (.iconst 0) 1 13 := ⟨by decide +kernel, rfl⟩
theorem dRea_hasFault_13 : uD prog_7_method_2_code 13 (.ireturn) 1 14 := ⟨by decide +kernel, rfl⟩
theorem dRea_read_0 : uD prog_7_method_3_code 0 (.aload_n 0) 1 1 := ⟨by decide +kernel, rfl⟩
theorem dRea_read_1 : uD prog_7_method_3_code 1 (.getfield 12) 3 4 := ⟨by decide +kernel, rfl⟩
theorem dRea_read_4 : uD prog_7_method_3_code 4 (.invokevirtual 34) 3 7 := ⟨by decide +kernel, rfl⟩
theorem dRea_read_7 : uD prog_7_method_3_code 7 (.aload_n 0) 1 8 := ⟨by decide +kernel, rfl⟩
theorem dRea_read_8 : uD prog_7_method_3_code 8 (.getfield 27) 3 11 := ⟨by decide +kernel, rfl⟩
theorem dRea_read_11 : uD prog_7_method_3_code 11 (.invokevirtual 37) 3 14 := ⟨by decide +kernel, rfl⟩
theorem dRea_read_14 : uD prog_7_method_3_code 14 (.aload_n 0) 1 15 := ⟨by decide +kernel, rfl⟩
theorem dRea_read_15 : uD prog_7_method_3_code 15 (.iconst (-1)) 1 16 := ⟨by decide +kernel, rfl⟩
theorem dRea_read_16 : uD prog_7_method_3_code 16 (.putfield 18) 3 19 := ⟨by decide +kernel, rfl⟩
theorem dRea_read_19 : uD prog_7_method_3_code 19 (.aload_n 0) 1 20 := ⟨by decide +kernel, rfl⟩
theorem dRea_read_20 : uD prog_7_method_3_code 20 (.iconst 0) 1 21 := ⟨by decide +kernel, rfl⟩
theorem dRea_read_21 : uD prog_7_method_3_code 21 (.putfield 38) 3 24 := ⟨by decide +kernel, rfl⟩
theorem dRea_read_24 : uD prog_7_method_3_code 24 (.iconst 0) 1 25 := ⟨by decide +kernel, rfl⟩
theorem dRea_read_25 : uD prog_7_method_3_code 25 (.istore_n 3) 1 26 := ⟨by decide +kernel, rfl⟩
theorem dRea_read_26 : uD prog_7_method_3_code 26 (.iload_n 3) 1 27 := ⟨by decide +kernel, rfl⟩
theorem dRea_read_27 : uD prog_7_method_3_code 27 (.aload_n 1) 1 28 := ⟨by decide +kernel, rfl⟩
theorem dRea_read_28 : uD prog_7_method_3_code 28 (.invokevirtual 41) 3 31 := ⟨by decide +kernel, rfl⟩
theorem dRea_read_31 : uB prog_7_method_3_code 31 (.if_icmp .ge) 34 74 := ⟨43, by decide +kernel, rfl, by decide⟩
theorem dRea_read_34 : uD prog_7_method_3_code 34 (.aload_n 0) 1 35 := ⟨by decide +kernel, rfl⟩
theorem dRea_read_35 : uD prog_7_method_3_code 35 (.getfield 18) 3 38 := ⟨by decide +kernel, rfl⟩
theorem dRea_read_38 : uD prog_7_method_3_code 38 (.iconst (-1)) 1 39 := ⟨by decide +kernel, rfl⟩
theorem dRea_read_39 : uB prog_7_method_3_code 39 (.if_icmp .ne) 42 74 := ⟨35, by decide +kernel, rfl, by decide⟩
theorem dRea_read_42 : uD prog_7_method_3_code 42 (.aload_n 0) 1 43 := ⟨by decide +kernel, rfl⟩
theorem dRea_read_43 : uD prog_7_method_3_code 43 (.getfield 12) 3 46 := ⟨by decide +kernel, rfl⟩
theorem dRea_read_46 : uD prog_7_method_3_code 46 (.getfield 45) 3 49 := ⟨by decide +kernel, rfl⟩
theorem dRea_read_49 : uD prog_7_method_3_code 49 (.aload_n 1) 1 50 := ⟨by decide +kernel, rfl⟩
theorem dRea_read_50 : uD prog_7_method_3_code 50 (.iload_n 3) 1 51 := ⟨by decide +kernel, rfl⟩
theorem dRea_read_51 : uD prog_7_method_3_code 51 (.invokevirtual 48) 3 54 := ⟨by decide +kernel, rfl⟩
theorem dRea_read_54 : uD prog_7_method_3_code 54 (.invokevirtual 52) 3 57 := ⟨by decide +kernel, rfl⟩
theorem dRea_read_57 : uD prog_7_method_3_code 57 (.aload_n 0) 1 58 := ⟨by decide +kernel, rfl⟩
theorem dRea_read_58 : uD prog_7_method_3_code 58 (.iload_n 3) 1 59 := ⟨by decide +kernel, rfl⟩
theorem dRea_read_59 : uD prog_7_method_3_code 59 (.aload_n 1) 1 60 := ⟨by decide +kernel, rfl⟩
theorem dRea_read_60 : uD prog_7_method_3_code 60 (.iload_n 3) 1 61 := ⟨by decide +kernel, rfl⟩
theorem dRea_read_61 : uD prog_7_method_3_code 61 (.invokevirtual 48) 3 64 := ⟨by decide +kernel, rfl⟩
theorem dRea_read_64 : uD prog_7_method_3_code 64 (.aload_n 2) 1 65 := ⟨by decide +kernel, rfl⟩
theorem dRea_read_65 : uD prog_7_method_3_code 65 (.invokevirtual 55) 3 68 := ⟨by decide +kernel, rfl⟩
theorem dRea_read_68 : uD prog_7_method_3_code 68 (.iinc 3 1) 3 71 := ⟨by decide +kernel, rfl⟩
theorem dRea_read_71 : uB prog_7_method_3_code 71 .goto 74 26 := ⟨-45, by decide +kernel, rfl, by decide⟩
theorem dRea_read_74 : uD prog_7_method_3_code 74 (.aload_n 0) 1 75 := ⟨by decide +kernel, rfl⟩
theorem dRea_read_75 : uD prog_7_method_3_code 75 (.getfield 18) 3 78 := ⟨by decide +kernel, rfl⟩
theorem dRea_read_78 : uD prog_7_method_3_code 78 (.iconst (-1)) 1 79 := ⟨by decide +kernel, rfl⟩
theorem dRea_read_79 : uB prog_7_method_3_code 79 (.if_icmp .ne) 82 102 := ⟨23, by decide +kernel, rfl, by decide⟩
theorem dRea_read_82 : uD prog_7_method_3_code 82 (.aload_n 0) 1 83 := ⟨by decide +kernel, rfl⟩
theorem dRea_read_83 : uD prog_7_method_3_code 83 (.getfield 38) 3 86 := ⟨by decide +kernel, rfl⟩
theorem dRea_read_86 : uD prog_7_method_3_code 86 (.bipush 10) 2 88 := ⟨by decide +kernel, rfl⟩
theorem dRea_read_88 : uB prog_7_method_3_code 88 (.if_icmp .eq) 91 102 := ⟨14, by decide +kernel, rfl, by decide⟩
theorem dRea_read_91 : uD prog_7_method_3_code 91 (.aload_n 0) 1 92 := ⟨by decide +kernel, rfl⟩
theorem dRea_read_92 : uD prog_7_method_3_code 92 (.aload_n 1) 1 93 := ⟨by decide +kernel, rfl⟩
theorem dRea_read_93 : uD prog_7_method_3_code 93 (.invokevirtual 41) 3 96 := ⟨by decide +kernel, rfl⟩
theorem dRea_read_96 : uD prog_7_method_3_code 96 (.iconst 0) 1 97 := ⟨by decide +kernel, rfl⟩
theorem dRea_read_97 : uD prog_7_method_3_code 97 (.bipush (-5)) 2 99 := ⟨by decide +kernel, rfl⟩
theorem dRea_read_99 : uD prog_7_method_3_code 99 (.invokevirtual 59) 3 102 := ⟨by decide +kernel, rfl⟩
theorem dRea_read_102 : uD prog_7_method_3_code 102 (.return_) 1 103 := ⟨by decide +kernel, rfl⟩
theorem dRea_take_0 : uD prog_7_method_4_code 0 (.aload_n 0) 1 1 := ⟨by decide +kernel, rfl⟩
theorem dRea_take_1 : uD prog_7_method_4_code 1 (.getfield 38) 3 4 := ⟨by decide +kernel, rfl⟩
theorem dRea_take_4 : decode prog_7_method_4_code 4 = .ok (.tableswitch 206 0 9 #[56, 76, 86, 123, 132, 152, 178, 178, 187, 197], 56) := by decide +kernel
theorem dRea_take_60 : uD prog_7_method_4_code 60 (.aload_n 0) 1 61 := ⟨by decide +kernel, rfl⟩
theorem dRea_take_61 : uD prog_7_method_4_code 61 (.iload_n 2) 1 62 := ⟨by decide +kernel, rfl⟩
theorem dRea_take_62 : uD prog_7_method_4_code 62 (.bipush 60) 2 64 := ⟨by decide +kernel, rfl⟩
theorem dRea_take_64 : uB prog_7_method_4_code 64 (.if_icmp .ne) 67 71 := ⟨7, by decide +kernel, rfl, by decide⟩
theorem dRea_take_67 : uD prog_7_method_4_code 67 (.iconst 1) 1 68 := ⟨by decide +kernel, rfl⟩
theorem dRea_take_68 : uB prog_7_method_4_code 68 .goto 71 72 := ⟨4, by decide +kernel, rfl, by decide⟩
theorem dRea_take_71 : uD prog_7_method_4_code 71 (.iconst 0) 1 72 := ⟨by decide +kernel, rfl⟩
theorem dRea_take_72 : uD prog_7_method_4_code 72 (.iconst 1) 1 73 := ⟨by decide +kernel, rfl⟩
theorem dRea_take_73 : uD prog_7_method_4_code 73 (.iload_n 1) 1 74 := ⟨by decide +kernel, rfl⟩
theorem dRea_take_74 : uD prog_7_method_4_code 74 (.invokevirtual 63) 3 77 := ⟨by decide +kernel, rfl⟩
theorem dRea_take_77 : uB prog_7_method_4_code 77 .goto 80 219 := ⟨142, by decide +kernel, rfl, by decide⟩
theorem dRea_take_80 : uD prog_7_method_4_code 80 (.aload_n 0) 1 81 := ⟨by decide +kernel, rfl⟩
theorem dRea_take_81 : uD prog_7_method_4_code 81 (.iload_n 1) 1 82 := ⟨by decide +kernel, rfl⟩
theorem dRea_take_82 : uD prog_7_method_4_code 82 (.iload_n 2) 1 83 := ⟨by decide +kernel, rfl⟩
theorem dRea_take_83 : uD prog_7_method_4_code 83 (.aload_n 3) 1 84 := ⟨by decide +kernel, rfl⟩
theorem dRea_take_84 : uD prog_7_method_4_code 84 (.invokevirtual 67) 3 87 := ⟨by decide +kernel, rfl⟩
theorem dRea_take_87 : uB prog_7_method_4_code 87 .goto 90 219 := ⟨132, by decide +kernel, rfl, by decide⟩
theorem dRea_take_90 : uD prog_7_method_4_code 90 (.aload_n 0) 1 91 := ⟨by decide +kernel, rfl⟩
theorem dRea_take_91 : uD prog_7_method_4_code 91 (.iload_n 2) 1 92 := ⟨by decide +kernel, rfl⟩
theorem dRea_take_92 : uD prog_7_method_4_code 92 (.bipush 32) 2 94 := ⟨by decide +kernel, rfl⟩
theorem dRea_take_94 : uB prog_7_method_4_code 94 (.if_icmp .eq) 97 103 := ⟨9, by decide +kernel, rfl, by decide⟩
theorem dRea_take_97 : uD prog_7_method_4_code 97 (.iload_n 2) 1 98 := ⟨by decide +kernel, rfl⟩
theorem dRea_take_98 : uD prog_7_method_4_code 98 (.bipush 62) 2 100 := ⟨by decide +kernel, rfl⟩
theorem dRea_take_100 : uB prog_7_method_4_code 100 (.if_icmp .ne) 103 107 := ⟨7, by decide +kernel, rfl, by decide⟩
theorem dRea_take_103 : uD prog_7_method_4_code 103 (.iconst 1) 1 104 := ⟨by decide +kernel, rfl⟩
theorem dRea_take_104 : uB prog_7_method_4_code 104 .goto 107 108 := ⟨4, by decide +kernel, rfl, by decide⟩
theorem dRea_take_107 : uD prog_7_method_4_code 107 (.iconst 0) 1 108 := ⟨by decide +kernel, rfl⟩
theorem dRea_take_108 : uD prog_7_method_4_code 108 (.iload_n 2) 1 109 := ⟨by decide +kernel, rfl⟩
theorem dRea_take_109 : uD prog_7_method_4_code 109 (.bipush 32) 2 111 := ⟨by decide +kernel, rfl⟩
theorem dRea_take_111 : uB prog_7_method_4_code 111 (.if_icmp .ne) 114 118 := ⟨7, by decide +kernel, rfl, by decide⟩
theorem dRea_take_114 : uD prog_7_method_4_code 114 (.iconst 3) 1 115 := ⟨by decide +kernel, rfl⟩
theorem dRea_take_115 : uB prog_7_method_4_code 115 .goto 118 120 := ⟨5, by decide +kernel, rfl, by decide⟩
theorem dRea_take_118 : uD prog_7_method_4_code 118 (.bipush 6) 2 120 := ⟨by decide +kernel, rfl⟩
theorem dRea_take_120 : uD prog_7_method_4_code 120 (.iload_n 1) 1 121 := ⟨by decide +kernel, rfl⟩
theorem dRea_take_121 : uD prog_7_method_4_code 121 (.invokevirtual 63) 3 124 := ⟨by decide +kernel, rfl⟩
theorem dRea_take_124 : uB prog_7_method_4_code 124 .goto 127 219 := ⟨95, by decide +kernel, rfl, by decide⟩
theorem dRea_take_127 : uD prog_7_method_4_code 127 (.aload_n 0) 1 128 := ⟨by decide +kernel, rfl⟩
theorem dRea_take_128 : uD prog_7_method_4_code 128 (.iload_n 1) 1 129 := ⟨by decide +kernel, rfl⟩
theorem dRea_take_129 : uD prog_7_method_4_code 129 (.iload_n 2) 1 130 := ⟨by decide +kernel, rfl⟩
theorem dRea_take_130 : uD prog_7_method_4_code 130 (.invokevirtual 70) 3 133 := ⟨by decide +kernel, rfl⟩
theorem dRea_take_133 : uB prog_7_method_4_code 133 .goto 136 219 := ⟨86, by decide +kernel, rfl, by decide⟩
theorem dRea_take_136 : uD prog_7_method_4_code 136 (.aload_n 0) 1 137 := ⟨by decide +kernel, rfl⟩
theorem dRea_take_137 : uD prog_7_method_4_code 137 (.iload_n 2) 1 138 := ⟨by decide +kernel, rfl⟩
theorem dRea_take_138 : uD prog_7_method_4_code 138 (.bipush 61) 2 140 := ⟨by decide +kernel, rfl⟩
theorem dRea_take_140 : uB prog_7_method_4_code 140 (.if_icmp .ne) 143 147 := ⟨7, by decide +kernel, rfl, by decide⟩
theorem dRea_take_143 : uD prog_7_method_4_code 143 (.iconst 1) 1 144 := ⟨by decide +kernel, rfl⟩
theorem dRea_take_144 : uB prog_7_method_4_code 144 .goto 147 148 := ⟨4, by decide +kernel, rfl, by decide⟩
theorem dRea_take_147 : uD prog_7_method_4_code 147 (.iconst 0) 1 148 := ⟨by decide +kernel, rfl⟩
theorem dRea_take_148 : uD prog_7_method_4_code 148 (.iconst 5) 1 149 := ⟨by decide +kernel, rfl⟩
theorem dRea_take_149 : uD prog_7_method_4_code 149 (.iload_n 1) 1 150 := ⟨by decide +kernel, rfl⟩
theorem dRea_take_150 : uD prog_7_method_4_code 150 (.invokevirtual 63) 3 153 := ⟨by decide +kernel, rfl⟩
theorem dRea_take_153 : uB prog_7_method_4_code 153 .goto 156 219 := ⟨66, by decide +kernel, rfl, by decide⟩
theorem dRea_take_156 : uD prog_7_method_4_code 156 (.aload_n 0) 1 157 := ⟨by decide +kernel, rfl⟩
theorem dRea_take_157 : uD prog_7_method_4_code 157 (.iload_n 2) 1 158 := ⟨by decide +kernel, rfl⟩
theorem dRea_take_158 : uD prog_7_method_4_code 158 (.bipush 48) 2 160 := ⟨by decide +kernel, rfl⟩
theorem dRea_take_160 : uB prog_7_method_4_code 160 (.if_icmp .lt) 163 173 := ⟨13, by decide +kernel, rfl, by decide⟩
theorem dRea_take_163 : uD prog_7_method_4_code 163 (.iload_n 2) 1 164 := ⟨by decide +kernel, rfl⟩
theorem dRea_take_164 : uD prog_7_method_4_code 164 (.bipush 57) 2 166 := ⟨by decide +kernel, rfl⟩
theorem dRea_take_166 : uB prog_7_method_4_code 166 (.if_icmp .gt) 169 173 := ⟨7, by decide +kernel, rfl, by decide⟩
theorem dRea_take_169 : uD prog_7_method_4_code 169 (.iconst 1) 1 170 := ⟨by decide +kernel, rfl⟩
theorem dRea_take_170 : uB prog_7_method_4_code 170 .goto 173 174 := ⟨4, by decide +kernel, rfl, by decide⟩
theorem dRea_take_173 : uD prog_7_method_4_code 173 (.iconst 0) 1 174 := ⟨by decide +kernel, rfl⟩
theorem dRea_take_174 : uD prog_7_method_4_code 174 (.iconst 2) 1 175 := ⟨by decide +kernel, rfl⟩
theorem dRea_take_175 : uD prog_7_method_4_code 175 (.iload_n 1) 1 176 := ⟨by decide +kernel, rfl⟩
theorem dRea_take_176 : uD prog_7_method_4_code 176 (.invokevirtual 63) 3 179 := ⟨by decide +kernel, rfl⟩
theorem dRea_take_179 : uB prog_7_method_4_code 179 .goto 182 219 := ⟨40, by decide +kernel, rfl, by decide⟩
theorem dRea_take_182 : uD prog_7_method_4_code 182 (.aload_n 0) 1 183 := ⟨by decide +kernel, rfl⟩
theorem dRea_take_183 : uD prog_7_method_4_code 183 (.iload_n 1) 1 184 := ⟨by decide +kernel, rfl⟩
theorem dRea_take_184 : uD prog_7_method_4_code 184 (.iload_n 2) 1 185 := ⟨by decide +kernel, rfl⟩
theorem dRea_take_185 : uD prog_7_method_4_code 185 (.invokevirtual 74) 3 188 := ⟨by decide +kernel, rfl⟩
theorem dRea_take_188 : uB prog_7_method_4_code 188 .goto 191 219 := ⟨31, by decide +kernel, rfl, by decide⟩
theorem dRea_take_191 : uD prog_7_method_4_code 191 (.aload_n 0) 1 192 := ⟨by decide +kernel, rfl⟩
theorem dRea_take_192 : uD prog_7_method_4_code 192 (.iload_n 1) 1 193 := ⟨by decide +kernel, rfl⟩
theorem dRea_take_193 : uD prog_7_method_4_code 193 (.iload_n 2) 1 194 := ⟨by decide +kernel, rfl⟩
theorem dRea_take_194 : uD prog_7_method_4_code 194 (.aload_n 3) 1 195 := ⟨by decide +kernel, rfl⟩
theorem dRea_take_195 : uD prog_7_method_4_code 195 (.invokevirtual 77) 3 198 := ⟨by decide +kernel, rfl⟩
theorem dRea_take_198 : uB prog_7_method_4_code 198 .goto 201 219 := ⟨21, by decide +kernel, rfl, by decide⟩
theorem dRea_take_201 : uD prog_7_method_4_code 201 (.aload_n 0) 1 202 := ⟨by decide +kernel, rfl⟩
theorem dRea_take_202 : uD prog_7_method_4_code 202 (.iload_n 1) 1 203 := ⟨by decide +kernel, rfl⟩
theorem dRea_take_203 : uD prog_7_method_4_code 203 (.iload_n 2) 1 204 := ⟨by decide +kernel, rfl⟩
theorem dRea_take_204 : uD prog_7_method_4_code 204 (.invokevirtual 80) 3 207 := ⟨by decide +kernel, rfl⟩
theorem dRea_take_207 : uB prog_7_method_4_code 207 .goto 210 219 := ⟨12, by decide +kernel, rfl, by decide⟩
theorem dRea_take_210 : uD prog_7_method_4_code 210 (.aload_n 0) 1 211 := ⟨by decide +kernel, rfl⟩
theorem dRea_take_211 : uD prog_7_method_4_code 211 (.iload_n 1) 1 212 := ⟨by decide +kernel, rfl⟩
theorem dRea_take_212 : uD prog_7_method_4_code 212 (.bipush 6) 2 214 := ⟨by decide +kernel, rfl⟩
theorem dRea_take_214 : uD prog_7_method_4_code 214 (.bipush (-5)) 2 216 := ⟨by decide +kernel, rfl⟩
theorem dRea_take_216 : uD prog_7_method_4_code 216 (.invokevirtual 59) 3 219 := ⟨by decide +kernel, rfl⟩
theorem dRea_take_219 : uD prog_7_method_4_code 219 (.return_) 1 220 := ⟨by decide +kernel, rfl⟩
theorem dRea_expect_0 : uD prog_7_method_5_code 0 (.iload_n 1) 1 1 := ⟨by decide +kernel, rfl⟩
theorem dRea_expect_1 : uB prog_7_method_5_code 1 (.ifCond .eq) 4 12 := ⟨11, by decide +kernel, rfl, by decide⟩
theorem dRea_expect_4 : uD prog_7_method_5_code 4 (.aload_n 0) 1 5 := ⟨by decide +kernel, rfl⟩
theorem dRea_expect_5 : uD prog_7_method_5_code 5 (.iload_n 2) 1 6 := ⟨by decide +kernel, rfl⟩
theorem dRea_expect_6 : uD prog_7_method_5_code 6 (.putfield 38) 3 9 := ⟨by decide +kernel, rfl⟩
theorem dRea_expect_9 : uB prog_7_method_5_code 9 .goto 12 20 := ⟨11, by decide +kernel, rfl, by decide⟩
theorem dRea_expect_12 : uD prog_7_method_5_code 12 (.aload_n 0) 1 13 := ⟨by decide +kernel, rfl⟩
theorem dRea_expect_13 : uD prog_7_method_5_code 13 (.iload_n 3) 1 14 := ⟨by decide +kernel, rfl⟩
theorem dRea_expect_14 : uD prog_7_method_5_code 14 (.iconst 1) 1 15 := ⟨by decide +kernel, rfl⟩
theorem dRea_expect_15 : uD prog_7_method_5_code 15 (.bipush (-5)) 2 17 := ⟨by decide +kernel, rfl⟩
theorem dRea_expect_17 : uD prog_7_method_5_code 17 (.invokevirtual 59) 3 20 := ⟨by decide +kernel, rfl⟩
theorem dRea_expect_20 : uD prog_7_method_5_code 20 (.return_) 1 21 := ⟨by decide +kernel, rfl⟩
theorem dRea_takeBehindMark_0 : uD prog_7_method_6_code 0 (.iload_n 2) 1 1 := ⟨by decide +kernel, rfl⟩
theorem dRea_takeBehindMark_1 : uD prog_7_method_6_code 1 (.invokestatic 83) 3 4 := ⟨by decide +kernel, rfl⟩
theorem dRea_takeBehindMark_4 : uB prog_7_method_6_code 4 (.ifCond .eq) 7 22 := ⟨18, by decide +kernel, rfl, by decide⟩
theorem dRea_takeBehindMark_7 : uD prog_7_method_6_code 7 (.aload_n 0) 1 8 := ⟨by decide +kernel, rfl⟩
theorem dRea_takeBehindMark_8 : uD prog_7_method_6_code 8 (.iload_n 1) 1 9 := ⟨by decide +kernel, rfl⟩
theorem dRea_takeBehindMark_9 : uD prog_7_method_6_code 9 (.iconst 1) 1 10 := ⟨by decide +kernel, rfl⟩
theorem dRea_takeBehindMark_10 : uD prog_7_method_6_code 10 (.isub) 1 11 := ⟨by decide +kernel, rfl⟩
theorem dRea_takeBehindMark_11 : uD prog_7_method_6_code 11 (.iload_n 2) 1 12 := ⟨by decide +kernel, rfl⟩
theorem dRea_takeBehindMark_12 : uD prog_7_method_6_code 12 (.bipush 97) 2 14 := ⟨by decide +kernel, rfl⟩
theorem dRea_takeBehindMark_14 : uD prog_7_method_6_code 14 (.isub) 1 15 := ⟨by decide +kernel, rfl⟩
theorem dRea_takeBehindMark_15 : uD prog_7_method_6_code 15 (.aload_n 3) 1 16 := ⟨by decide +kernel, rfl⟩
theorem dRea_takeBehindMark_16 : uD prog_7_method_6_code 16 (.invokevirtual 87) 3 19 := ⟨by decide +kernel, rfl⟩
theorem dRea_takeBehindMark_19 : uB prog_7_method_6_code 19 .goto 22 50 := ⟨31, by decide +kernel, rfl, by decide⟩
theorem dRea_takeBehindMark_22 : uD prog_7_method_6_code 22 (.aload_n 0) 1 23 := ⟨by decide +kernel, rfl⟩
theorem dRea_takeBehindMark_23 : uD prog_7_method_6_code 23 (.iload_n 2) 1 24 := ⟨by decide +kernel, rfl⟩
theorem dRea_takeBehindMark_24 : uD prog_7_method_6_code 24 (.bipush 47) 2 26 := ⟨by decide +kernel, rfl⟩
theorem dRea_takeBehindMark_26 : uB prog_7_method_6_code 26 (.if_icmp .ne) 29 43 := ⟨17, by decide +kernel, rfl, by decide⟩
theorem dRea_takeBehindMark_29 : uD prog_7_method_6_code 29 (.aload_n 0) 1 30 := ⟨by decide +kernel, rfl⟩
theorem dRea_takeBehindMark_30 : uD prog_7_method_6_code 30 (.getfield 27) 3 33 := ⟨by decide +kernel, rfl⟩
theorem dRea_takeBehindMark_33 : uD prog_7_method_6_code 33 (.invokevirtual 41) 3 36 := ⟨by decide +kernel, rfl⟩
theorem dRea_takeBehindMark_36 : uB prog_7_method_6_code 36 (.ifCond .le) 39 43 := ⟨7, by decide +kernel, rfl, by decide⟩
theorem dRea_takeBehindMark_39 : uD prog_7_method_6_code 39 (.iconst 1) 1 40 := ⟨by decide +kernel, rfl⟩
theorem dRea_takeBehindMark_40 : uB prog_7_method_6_code 40 .goto 43 44 := ⟨4, by decide +kernel, rfl, by decide⟩
theorem dRea_takeBehindMark_43 : uD prog_7_method_6_code 43 (.iconst 0) 1 44 := ⟨by decide +kernel, rfl⟩
theorem dRea_takeBehindMark_44 : uD prog_7_method_6_code 44 (.bipush 8) 2 46 := ⟨by decide +kernel, rfl⟩
theorem dRea_takeBehindMark_46 : uD prog_7_method_6_code 46 (.iload_n 1) 1 47 := ⟨by decide +kernel, rfl⟩
theorem dRea_takeBehindMark_47 : uD prog_7_method_6_code 47 (.invokevirtual 63) 3 50 := ⟨by decide +kernel, rfl⟩
theorem dRea_takeBehindMark_50 : uD prog_7_method_6_code 50 (.return_) 1 51 := ⟨by decide +kernel, rfl⟩
theorem dRea_openBox_0 : uD prog_7_method_7_code 0 (.aload_n 0) 1 1 := ⟨by decide +kernel, rfl⟩
theorem dRea_openBox_1 : uD prog_7_method_7_code 1 (.getfield 27) 3 4 := ⟨by decide +kernel, rfl⟩
theorem dRea_openBox_4 : uD prog_7_method_7_code 4 (.invokevirtual 41) 3 7 := ⟨by decide +kernel, rfl⟩
theorem dRea_openBox_7 : uD prog_7_method_7_code 7 (.istore 4) 2 9 := ⟨by decide +kernel, rfl⟩
theorem dRea_openBox_9 : uD prog_7_method_7_code 9 (.iload 4) 2 11 := ⟨by decide +kernel, rfl⟩
theorem dRea_openBox_11 : uD prog_7_method_7_code 11 (.iconst 1) 1 12 := ⟨by decide +kernel, rfl⟩
theorem dRea_openBox_12 : uB prog_7_method_7_code 12 (.if_icmp .le) 15 38 := ⟨26, by decide +kernel, rfl, by decide⟩
theorem dRea_openBox_15 : uD prog_7_method_7_code 15 (.aload_n 3) 1 16 := ⟨by decide +kernel, rfl⟩
theorem dRea_openBox_16 : uD prog_7_method_7_code 16 (.iload_n 2) 1 17 := ⟨by decide +kernel, rfl⟩
theorem dRea_openBox_17 : uD prog_7_method_7_code 17 (.aload_n 0) 1 18 := ⟨by decide +kernel, rfl⟩
theorem dRea_openBox_18 : uD prog_7_method_7_code 18 (.invokevirtual 90) 3 21 := ⟨by decide +kernel, rfl⟩
theorem dRea_openBox_21 : uD prog_7_method_7_code 21 (.invokevirtual 93) 3 24 := ⟨by decide +kernel, rfl⟩
theorem dRea_openBox_24 : uB prog_7_method_7_code 24 (.ifCond .eq) 27 38 := ⟨14, by decide +kernel, rfl, by decide⟩
theorem dRea_openBox_27 : uD prog_7_method_7_code 27 (.aload_n 0) 1 28 := ⟨by decide +kernel, rfl⟩
theorem dRea_openBox_28 : uD prog_7_method_7_code 28 (.iconst 3) 1 29 := ⟨by decide +kernel, rfl⟩
theorem dRea_openBox_29 : uD prog_7_method_7_code 29 (.invokevirtual 99) 3 32 := ⟨by decide +kernel, rfl⟩
theorem dRea_openBox_32 : uD prog_7_method_7_code 32 (.iinc 4 (-1)) 3 35 := ⟨by decide +kernel, rfl⟩
theorem dRea_openBox_35 : uB prog_7_method_7_code 35 .goto 38 9 := ⟨-26, by decide +kernel, rfl, by decide⟩
theorem dRea_openBox_38 : uD prog_7_method_7_code 38 (.aload_n 0) 1 39 := ⟨by decide +kernel, rfl⟩
theorem dRea_openBox_39 : uD prog_7_method_7_code 39 (.getfield 27) 3 42 := ⟨by decide +kernel, rfl⟩
theorem dRea_openBox_42 : uD prog_7_method_7_code 42 (.invokevirtual 41) 3 45 := ⟨by decide +kernel, rfl⟩
theorem dRea_openBox_45 : uD prog_7_method_7_code 45 (.bipush 6) 2 47 := ⟨by decide +kernel, rfl⟩
theorem dRea_openBox_47 : uB prog_7_method_7_code 47 (.if_icmp .lt) 50 59 := ⟨12, by decide +kernel, rfl, by decide⟩
theorem dRea_openBox_50 : uD prog_7_method_7_code 50 (.aload_n 0) 1 51 := ⟨by decide +kernel, rfl⟩
theorem dRea_openBox_51 : uD prog_7_method_7_code 51 (.iload_n 1) 1 52 := ⟨by decide +kernel, rfl⟩
theorem dRea_openBox_52 : uD prog_7_method_7_code 52 (.iconst 4) 1 53 := ⟨by decide +kernel, rfl⟩
theorem dRea_openBox_53 : uD prog_7_method_7_code 53 (.bipush (-5)) 2 55 := ⟨by decide +kernel, rfl⟩
theorem dRea_openBox_55 : uD prog_7_method_7_code 55 (.invokevirtual 59) 3 58 := ⟨by decide +kernel, rfl⟩
theorem dRea_openBox_58 : uD prog_7_method_7_code 58 (.return_) 1 59 := ⟨by decide +kernel, rfl⟩
theorem dRea_openBox_59 : uD prog_7_method_7_code 59 (.aload_n 0) 1 60 := ⟨by decide +kernel, rfl⟩
theorem dRea_openBox_60 : uD prog_7_method_7_code 60 (.getfield 12) 3 63 := ⟨by decide +kernel, rfl⟩
theorem dRea_openBox_63 : uD prog_7_method_7_code 63 (.getfield 102) 3 66 := ⟨by decide +kernel, rfl⟩
theorem dRea_openBox_66 : uD prog_7_method_7_code 66 (.invokevirtual 41) 3 69 := ⟨by decide +kernel, rfl⟩
theorem dRea_openBox_69 : uD prog_7_method_7_code 69 (.istore 4) 2 71 := ⟨by decide +kernel, rfl⟩
theorem dRea_openBox_71 : uD prog_7_method_7_code 71 (.aload_n 0) 1 72 := ⟨by decide +kernel, rfl⟩
theorem dRea_openBox_72 : uD prog_7_method_7_code 72 (.getfield 12) 3 75 := ⟨by decide +kernel, rfl⟩
theorem dRea_openBox_75 : uD prog_7_method_7_code 75 (.iload_n 1) 1 76 := ⟨by decide +kernel, rfl⟩
theorem dRea_openBox_76 : uD prog_7_method_7_code 76 (.iload_n 2) 1 77 := ⟨by decide +kernel, rfl⟩
theorem dRea_openBox_77 : uD prog_7_method_7_code 77 (.aload_n 0) 1 78 := ⟨by decide +kernel, rfl⟩
theorem dRea_openBox_78 : uD prog_7_method_7_code 78 (.getfield 27) 3 81 := ⟨by decide +kernel, rfl⟩
theorem dRea_openBox_81 : uD prog_7_method_7_code 81 (.invokevirtual 105) 3 84 := ⟨by decide +kernel, rfl⟩
theorem dRea_openBox_84 : uD prog_7_method_7_code 84 (.invokevirtual 108) 3 87 := ⟨by decide +kernel, rfl⟩
theorem dRea_openBox_87 : uD prog_7_method_7_code 87 (.aload_n 0) 1 88 := ⟨by decide +kernel, rfl⟩
theorem dRea_openBox_88 : uD prog_7_method_7_code 88 (.getfield 27) 3 91 := ⟨by decide +kernel, rfl⟩
theorem dRea_openBox_91 : uD prog_7_method_7_code 91 (.iload 4) 2 93 := ⟨by decide +kernel, rfl⟩
theorem dRea_openBox_93 : uD prog_7_method_7_code 93 (.invokevirtual 52) 3 96 := ⟨by decide +kernel, rfl⟩
theorem dRea_openBox_96 : uD prog_7_method_7_code 96 (.aload_n 0) 1 97 := ⟨by decide +kernel, rfl⟩
theorem dRea_openBox_97 : uD prog_7_method_7_code 97 (.getfield 31) 3 100 := ⟨by decide +kernel, rfl⟩
theorem dRea_openBox_100 : uD prog_7_method_7_code 100 (.iconst (-1)) 1 101 := ⟨by decide +kernel, rfl⟩
theorem dRea_openBox_101 : uD prog_7_method_7_code 101 (.invokevirtual 111) 3 104 := ⟨by decide +kernel, rfl⟩
theorem dRea_openBox_104 : uD prog_7_method_7_code 104 (.aload_n 0) 1 105 := ⟨by decide +kernel, rfl⟩
theorem dRea_openBox_105 : uD prog_7_method_7_code 105 (.iconst 2) 1 106 := ⟨by decide +kernel, rfl⟩
theorem dRea_openBox_106 : uD prog_7_method_7_code 106 (.putfield 38) 3 109 := ⟨by decide +kernel, rfl⟩
theorem dRea_openBox_109 : uD prog_7_method_7_code 109 (.return_) 1 110 := ⟨by decide +kernel, rfl⟩
theorem dRea_takeKey_0 : uD prog_7_method_8_code 0 (.iload_n 2) 1 1 := ⟨by decide +kernel, rfl⟩
theorem dRea_takeKey_1 : uD prog_7_method_8_code 1 (.bipush 119) 2 3 := ⟨by decide +kernel, rfl⟩
theorem dRea_takeKey_3 : uD prog_7_method_8_code 3 (.isub) 1 4 := ⟨by decide +kernel, rfl⟩
theorem dRea_takeKey_4 : uD prog_7_method_8_code 4 (.istore_n 3) 1 5 := ⟨by decide +kernel, rfl⟩
theorem dRea_takeKey_5 : uD prog_7_method_8_code 5 (.iload_n 3) 1 6 := ⟨by decide +kernel, rfl⟩
theorem dRea_takeKey_6 : uB prog_7_method_8_code 6 (.ifCond .lt) 9 14 := ⟨8, by decide +kernel, rfl, by decide⟩
theorem dRea_takeKey_9 : uD prog_7_method_8_code 9 (.iload_n 3) 1 10 := ⟨by decide +kernel, rfl⟩
theorem dRea_takeKey_10 : uD prog_7_method_8_code 10 (.iconst 4) 1 11 := ⟨by decide +kernel, rfl⟩
theorem dRea_takeKey_11 : uB prog_7_method_8_code 11 (.if_icmp .lt) 14 25 := ⟨14, by decide +kernel, rfl, by decide⟩
theorem dRea_takeKey_14 : uD prog_7_method_8_code 14 (.aload_n 0) 1 15 := ⟨by decide +kernel, rfl⟩
theorem dRea_takeKey_15 : uD prog_7_method_8_code 15 (.iload_n 1) 1 16 := ⟨by decide +kernel, rfl⟩
theorem dRea_takeKey_16 : uD prog_7_method_8_code 16 (.iconst 1) 1 17 := ⟨by decide +kernel, rfl⟩
theorem dRea_takeKey_17 : uD prog_7_method_8_code 17 (.bipush (-5)) 2 19 := ⟨by decide +kernel, rfl⟩
theorem dRea_takeKey_19 : uD prog_7_method_8_code 19 (.invokevirtual 59) 3 22 := ⟨by decide +kernel, rfl⟩
theorem dRea_takeKey_22 : uB prog_7_method_8_code 22 .goto 25 68 := ⟨46, by decide +kernel, rfl, by decide⟩
theorem dRea_takeKey_25 : uD prog_7_method_8_code 25 (.aload_n 0) 1 26 := ⟨by decide +kernel, rfl⟩
theorem dRea_takeKey_26 : uD prog_7_method_8_code 26 (.getfield 31) 3 29 := ⟨by decide +kernel, rfl⟩
theorem dRea_takeKey_29 : uD prog_7_method_8_code 29 (.iload_n 3) 1 30 := ⟨by decide +kernel, rfl⟩
theorem dRea_takeKey_30 : uD prog_7_method_8_code 30 (.invokevirtual 48) 3 33 := ⟨by decide +kernel, rfl⟩
theorem dRea_takeKey_33 : uD prog_7_method_8_code 33 (.iconst (-1)) 1 34 := ⟨by decide +kernel, rfl⟩
theorem dRea_takeKey_34 : uB prog_7_method_8_code 34 (.if_icmp .eq) 37 54 := ⟨20, by decide +kernel, rfl, by decide⟩
theorem dRea_takeKey_37 : uD prog_7_method_8_code 37 (.aload_n 0) 1 38 := ⟨by decide +kernel, rfl⟩
theorem dRea_takeKey_38 : uD prog_7_method_8_code 38 (.iload_n 1) 1 39 := ⟨by decide +kernel, rfl⟩
theorem dRea_takeKey_39 : uD prog_7_method_8_code 39 (.iconst 2) 1 40 := ⟨by decide +kernel, rfl⟩
theorem dRea_takeKey_40 : uD prog_7_method_8_code 40 (.aload_n 0) 1 41 := ⟨by decide +kernel, rfl⟩
theorem dRea_takeKey_41 : uD prog_7_method_8_code 41 (.getfield 31) 3 44 := ⟨by decide +kernel, rfl⟩
theorem dRea_takeKey_44 : uD prog_7_method_8_code 44 (.iload_n 3) 1 45 := ⟨by decide +kernel, rfl⟩
theorem dRea_takeKey_45 : uD prog_7_method_8_code 45 (.invokevirtual 48) 3 48 := ⟨by decide +kernel, rfl⟩
theorem dRea_takeKey_48 : uD prog_7_method_8_code 48 (.invokevirtual 59) 3 51 := ⟨by decide +kernel, rfl⟩
theorem dRea_takeKey_51 : uB prog_7_method_8_code 51 .goto 54 68 := ⟨17, by decide +kernel, rfl, by decide⟩
theorem dRea_takeKey_54 : uD prog_7_method_8_code 54 (.aload_n 0) 1 55 := ⟨by decide +kernel, rfl⟩
theorem dRea_takeKey_55 : uD prog_7_method_8_code 55 (.getfield 31) 3 58 := ⟨by decide +kernel, rfl⟩
theorem dRea_takeKey_58 : uD prog_7_method_8_code 58 (.iload_n 3) 1 59 := ⟨by decide +kernel, rfl⟩
theorem dRea_takeKey_59 : uD prog_7_method_8_code 59 (.iload_n 1) 1 60 := ⟨by decide +kernel, rfl⟩
theorem dRea_takeKey_60 : uD prog_7_method_8_code 60 (.invokevirtual 114) 3 63 := ⟨by decide +kernel, rfl⟩
theorem dRea_takeKey_63 : uD prog_7_method_8_code 63 (.aload_n 0) 1 64 := ⟨by decide +kernel, rfl⟩
theorem dRea_takeKey_64 : uD prog_7_method_8_code 64 (.iconst 4) 1 65 := ⟨by decide +kernel, rfl⟩
theorem dRea_takeKey_65 : uD prog_7_method_8_code 65 (.putfield 38) 3 68 := ⟨by decide +kernel, rfl⟩
theorem dRea_takeKey_68 : uD prog_7_method_8_code 68 (.return_) 1 69 := ⟨by decide +kernel, rfl⟩
theorem dRea_takeInBox_0 : uD prog_7_method_9_code 0 (.iload_n 2) 1 1 := ⟨by decide +kernel, rfl⟩
theorem dRea_takeInBox_1 : uD prog_7_method_9_code 1 (.bipush 103) 2 3 := ⟨by decide +kernel, rfl⟩
theorem dRea_takeInBox_3 : uB prog_7_method_9_code 3 (.if_icmp .lt) 6 12 := ⟨9, by decide +kernel, rfl, by decide⟩
theorem dRea_takeInBox_6 : uD prog_7_method_9_code 6 (.iload_n 2) 1 7 := ⟨by decide +kernel, rfl⟩
theorem dRea_takeInBox_7 : uD prog_7_method_9_code 7 (.bipush 118) 2 9 := ⟨by decide +kernel, rfl⟩
theorem dRea_takeInBox_9 : uB prog_7_method_9_code 9 (.if_icmp .le) 12 32 := ⟨23, by decide +kernel, rfl, by decide⟩
theorem dRea_takeInBox_12 : uD prog_7_method_9_code 12 (.aload_n 0) 1 13 := ⟨by decide +kernel, rfl⟩
theorem dRea_takeInBox_13 : uD prog_7_method_9_code 13 (.iload_n 2) 1 14 := ⟨by decide +kernel, rfl⟩
theorem dRea_takeInBox_14 : uD prog_7_method_9_code 14 (.bipush 60) 2 16 := ⟨by decide +kernel, rfl⟩
theorem dRea_takeInBox_16 : uB prog_7_method_9_code 16 (.if_icmp .ne) 19 23 := ⟨7, by decide +kernel, rfl, by decide⟩
theorem dRea_takeInBox_19 : uD prog_7_method_9_code 19 (.iconst 1) 1 20 := ⟨by decide +kernel, rfl⟩
theorem dRea_takeInBox_20 : uB prog_7_method_9_code 20 .goto 23 24 := ⟨4, by decide +kernel, rfl, by decide⟩
theorem dRea_takeInBox_23 : uD prog_7_method_9_code 23 (.iconst 0) 1 24 := ⟨by decide +kernel, rfl⟩
theorem dRea_takeInBox_24 : uD prog_7_method_9_code 24 (.iconst 1) 1 25 := ⟨by decide +kernel, rfl⟩
theorem dRea_takeInBox_25 : uD prog_7_method_9_code 25 (.iload_n 1) 1 26 := ⟨by decide +kernel, rfl⟩
theorem dRea_takeInBox_26 : uD prog_7_method_9_code 26 (.invokevirtual 63) 3 29 := ⟨by decide +kernel, rfl⟩
theorem dRea_takeInBox_29 : uB prog_7_method_9_code 29 .goto 32 98 := ⟨69, by decide +kernel, rfl, by decide⟩
theorem dRea_takeInBox_32 : uD prog_7_method_9_code 32 (.aload_n 0) 1 33 := ⟨by decide +kernel, rfl⟩
theorem dRea_takeInBox_33 : uD prog_7_method_9_code 33 (.getfield 38) 3 36 := ⟨by decide +kernel, rfl⟩
theorem dRea_takeInBox_36 : uD prog_7_method_9_code 36 (.bipush 6) 2 38 := ⟨by decide +kernel, rfl⟩
theorem dRea_takeInBox_38 : uB prog_7_method_9_code 38 (.if_icmp .ne) 41 65 := ⟨27, by decide +kernel, rfl, by decide⟩
theorem dRea_takeInBox_41 : uD prog_7_method_9_code 41 (.aload_n 0) 1 42 := ⟨by decide +kernel, rfl⟩
theorem dRea_takeInBox_42 : uD prog_7_method_9_code 42 (.getfield 12) 3 45 := ⟨by decide +kernel, rfl⟩
theorem dRea_takeInBox_45 : uD prog_7_method_9_code 45 (.iload_n 1) 1 46 := ⟨by decide +kernel, rfl⟩
theorem dRea_takeInBox_46 : uD prog_7_method_9_code 46 (.aload_n 0) 1 47 := ⟨by decide +kernel, rfl⟩
theorem dRea_takeInBox_47 : uD prog_7_method_9_code 47 (.getfield 27) 3 50 := ⟨by decide +kernel, rfl⟩
theorem dRea_takeInBox_50 : uD prog_7_method_9_code 50 (.invokevirtual 105) 3 53 := ⟨by decide +kernel, rfl⟩
theorem dRea_takeInBox_53 : uD prog_7_method_9_code 53 (.invokevirtual 117) 3 56 := ⟨by decide +kernel, rfl⟩
theorem dRea_takeInBox_56 : uD prog_7_method_9_code 56 (.aload_n 0) 1 57 := ⟨by decide +kernel, rfl⟩
theorem dRea_takeInBox_57 : uD prog_7_method_9_code 57 (.bipush 7) 2 59 := ⟨by decide +kernel, rfl⟩
theorem dRea_takeInBox_59 : uD prog_7_method_9_code 59 (.putfield 38) 3 62 := ⟨by decide +kernel, rfl⟩
theorem dRea_takeInBox_62 : uB prog_7_method_9_code 62 .goto 65 98 := ⟨36, by decide +kernel, rfl, by decide⟩
theorem dRea_takeInBox_65 : uD prog_7_method_9_code 65 (.aload_n 0) 1 66 := ⟨by decide +kernel, rfl⟩
theorem dRea_takeInBox_66 : uD prog_7_method_9_code 66 (.getfield 12) 3 69 := ⟨by decide +kernel, rfl⟩
theorem dRea_takeInBox_69 : uD prog_7_method_9_code 69 (.getfield 120) 3 72 := ⟨by decide +kernel, rfl⟩
theorem dRea_takeInBox_72 : uD prog_7_method_9_code 72 (.invokevirtual 105) 3 75 := ⟨by decide +kernel, rfl⟩
theorem dRea_takeInBox_75 : uD prog_7_method_9_code 75 (.bipush 8) 2 77 := ⟨by decide +kernel, rfl⟩
theorem dRea_takeInBox_77 : uB prog_7_method_9_code 77 (.if_icmp .ge) 80 90 := ⟨13, by decide +kernel, rfl, by decide⟩
theorem dRea_takeInBox_80 : uD prog_7_method_9_code 80 (.aload_n 0) 1 81 := ⟨by decide +kernel, rfl⟩
theorem dRea_takeInBox_81 : uD prog_7_method_9_code 81 (.getfield 12) 3 84 := ⟨by decide +kernel, rfl⟩
theorem dRea_takeInBox_84 : uD prog_7_method_9_code 84 (.invokevirtual 123) 3 87 := ⟨by decide +kernel, rfl⟩
theorem dRea_takeInBox_87 : uB prog_7_method_9_code 87 .goto 90 98 := ⟨11, by decide +kernel, rfl, by decide⟩
theorem dRea_takeInBox_90 : uD prog_7_method_9_code 90 (.aload_n 0) 1 91 := ⟨by decide +kernel, rfl⟩
theorem dRea_takeInBox_91 : uD prog_7_method_9_code 91 (.iload_n 1) 1 92 := ⟨by decide +kernel, rfl⟩
theorem dRea_takeInBox_92 : uD prog_7_method_9_code 92 (.iconst 5) 1 93 := ⟨by decide +kernel, rfl⟩
theorem dRea_takeInBox_93 : uD prog_7_method_9_code 93 (.bipush (-5)) 2 95 := ⟨by decide +kernel, rfl⟩
theorem dRea_takeInBox_95 : uD prog_7_method_9_code 95 (.invokevirtual 59) 3 98 := ⟨by decide +kernel, rfl⟩
theorem dRea_takeInBox_98 : uD prog_7_method_9_code 98 (.return_) 1 99 := ⟨by decide +kernel, rfl⟩
theorem dRea_takeClosingName_0 : uD prog_7_method_10_code 0 (.iload_n 2) 1 1 := ⟨by decide +kernel, rfl⟩
theorem dRea_takeClosingName_1 : uD prog_7_method_10_code 1 (.invokestatic 83) 3 4 := ⟨by decide +kernel, rfl⟩
theorem dRea_takeClosingName_4 : uB prog_7_method_10_code 4 (.ifCond .ne) 7 16 := ⟨12, by decide +kernel, rfl, by decide⟩
theorem dRea_takeClosingName_7 : uD prog_7_method_10_code 7 (.aload_n 0) 1 8 := ⟨by decide +kernel, rfl⟩
theorem dRea_takeClosingName_8 : uD prog_7_method_10_code 8 (.iload_n 1) 1 9 := ⟨by decide +kernel, rfl⟩
theorem dRea_takeClosingName_9 : uD prog_7_method_10_code 9 (.iconst 1) 1 10 := ⟨by decide +kernel, rfl⟩
theorem dRea_takeClosingName_10 : uD prog_7_method_10_code 10 (.bipush (-5)) 2 12 := ⟨by decide +kernel, rfl⟩
theorem dRea_takeClosingName_12 : uD prog_7_method_10_code 12 (.invokevirtual 59) 3 15 := ⟨by decide +kernel, rfl⟩
theorem dRea_takeClosingName_15 : uD prog_7_method_10_code 15 (.return_) 1 16 := ⟨by decide +kernel, rfl⟩
theorem dRea_takeClosingName_16 : uD prog_7_method_10_code 16 (.iload_n 2) 1 17 := ⟨by decide +kernel, rfl⟩
theorem dRea_takeClosingName_17 : uD prog_7_method_10_code 17 (.bipush 97) 2 19 := ⟨by decide +kernel, rfl⟩
theorem dRea_takeClosingName_19 : uD prog_7_method_10_code 19 (.isub) 1 20 := ⟨by decide +kernel, rfl⟩
theorem dRea_takeClosingName_20 : uD prog_7_method_10_code 20 (.istore 4) 2 22 := ⟨by decide +kernel, rfl⟩
theorem dRea_takeClosingName_22 : uD prog_7_method_10_code 22 (.aload_n 0) 1 23 := ⟨by decide +kernel, rfl⟩
theorem dRea_takeClosingName_23 : uD prog_7_method_10_code 23 (.getfield 27) 3 26 := ⟨by decide +kernel, rfl⟩
theorem dRea_takeClosingName_26 : uD prog_7_method_10_code 26 (.invokevirtual 41) 3 29 := ⟨by decide +kernel, rfl⟩
theorem dRea_takeClosingName_29 : uD prog_7_method_10_code 29 (.istore 5) 2 31 := ⟨by decide +kernel, rfl⟩
theorem dRea_takeClosingName_31 : uD prog_7_method_10_code 31 (.iload 5) 2 33 := ⟨by decide +kernel, rfl⟩
theorem dRea_takeClosingName_33 : uD prog_7_method_10_code 33 (.iconst 1) 1 34 := ⟨by decide +kernel, rfl⟩
theorem dRea_takeClosingName_34 : uB prog_7_method_10_code 34 (.if_icmp .le) 37 58 := ⟨24, by decide +kernel, rfl, by decide⟩
theorem dRea_takeClosingName_37 : uD prog_7_method_10_code 37 (.aload_n 0) 1 38 := ⟨by decide +kernel, rfl⟩
theorem dRea_takeClosingName_38 : uD prog_7_method_10_code 38 (.iload 4) 2 40 := ⟨by decide +kernel, rfl⟩
theorem dRea_takeClosingName_40 : uD prog_7_method_10_code 40 (.aload_n 3) 1 41 := ⟨by decide +kernel, rfl⟩
theorem dRea_takeClosingName_41 : uD prog_7_method_10_code 41 (.invokevirtual 126) 3 44 := ⟨by decide +kernel, rfl⟩
theorem dRea_takeClosingName_44 : uB prog_7_method_10_code 44 (.ifCond .eq) 47 58 := ⟨14, by decide +kernel, rfl, by decide⟩
theorem dRea_takeClosingName_47 : uD prog_7_method_10_code 47 (.aload_n 0) 1 48 := ⟨by decide +kernel, rfl⟩
theorem dRea_takeClosingName_48 : uD prog_7_method_10_code 48 (.iconst 3) 1 49 := ⟨by decide +kernel, rfl⟩
theorem dRea_takeClosingName_49 : uD prog_7_method_10_code 49 (.invokevirtual 99) 3 52 := ⟨by decide +kernel, rfl⟩
theorem dRea_takeClosingName_52 : uD prog_7_method_10_code 52 (.iinc 5 (-1)) 3 55 := ⟨by decide +kernel, rfl⟩
theorem dRea_takeClosingName_55 : uB prog_7_method_10_code 55 .goto 58 31 := ⟨-24, by decide +kernel, rfl, by decide⟩
theorem dRea_takeClosingName_58 : uD prog_7_method_10_code 58 (.aload_n 0) 1 59 := ⟨by decide +kernel, rfl⟩
theorem dRea_takeClosingName_59 : uD prog_7_method_10_code 59 (.invokevirtual 90) 3 62 := ⟨by decide +kernel, rfl⟩
theorem dRea_takeClosingName_62 : uD prog_7_method_10_code 62 (.iload 4) 2 64 := ⟨by decide +kernel, rfl⟩
theorem dRea_takeClosingName_64 : uB prog_7_method_10_code 64 (.if_icmp .ne) 67 76 := ⟨12, by decide +kernel, rfl, by decide⟩
theorem dRea_takeClosingName_67 : uD prog_7_method_10_code 67 (.aload_n 0) 1 68 := ⟨by decide +kernel, rfl⟩
theorem dRea_takeClosingName_68 : uD prog_7_method_10_code 68 (.bipush 9) 2 70 := ⟨by decide +kernel, rfl⟩
theorem dRea_takeClosingName_70 : uD prog_7_method_10_code 70 (.putfield 38) 3 73 := ⟨by decide +kernel, rfl⟩
theorem dRea_takeClosingName_73 : uB prog_7_method_10_code 73 .goto 76 99 := ⟨26, by decide +kernel, rfl, by decide⟩
theorem dRea_takeClosingName_76 : uD prog_7_method_10_code 76 (.aload_n 0) 1 77 := ⟨by decide +kernel, rfl⟩
theorem dRea_takeClosingName_77 : uD prog_7_method_10_code 77 (.iload_n 1) 1 78 := ⟨by decide +kernel, rfl⟩
theorem dRea_takeClosingName_78 : uD prog_7_method_10_code 78 (.iconst 3) 1 79 := ⟨by decide +kernel, rfl⟩
theorem dRea_takeClosingName_79 : uD prog_7_method_10_code 79 (.aload_n 0) 1 80 := ⟨by decide +kernel, rfl⟩
theorem dRea_takeClosingName_80 : uD prog_7_method_10_code 80 (.getfield 12) 3 83 := ⟨by decide +kernel, rfl⟩
theorem dRea_takeClosingName_83 : uD prog_7_method_10_code 83 (.getfield 130) 3 86 := ⟨by decide +kernel, rfl⟩
theorem dRea_takeClosingName_86 : uD prog_7_method_10_code 86 (.aload_n 0) 1 87 := ⟨by decide +kernel, rfl⟩
theorem dRea_takeClosingName_87 : uD prog_7_method_10_code 87 (.getfield 27) 3 90 := ⟨by decide +kernel, rfl⟩
theorem dRea_takeClosingName_90 : uD prog_7_method_10_code 90 (.invokevirtual 105) 3 93 := ⟨by decide +kernel, rfl⟩
theorem dRea_takeClosingName_93 : uD prog_7_method_10_code 93 (.invokevirtual 48) 3 96 := ⟨by decide +kernel, rfl⟩
theorem dRea_takeClosingName_96 : uD prog_7_method_10_code 96 (.invokevirtual 59) 3 99 := ⟨by decide +kernel, rfl⟩
theorem dRea_takeClosingName_99 : uD prog_7_method_10_code 99 (.return_) 1 100 := ⟨by decide +kernel, rfl⟩
theorem dRea_takeClosingEnd_0 : uD prog_7_method_11_code 0 (.iload_n 2) 1 1 := ⟨by decide +kernel, rfl⟩
theorem dRea_takeClosingEnd_1 : uD prog_7_method_11_code 1 (.bipush 62) 2 3 := ⟨by decide +kernel, rfl⟩
theorem dRea_takeClosingEnd_3 : uB prog_7_method_11_code 3 (.if_icmp .eq) 6 15 := ⟨12, by decide +kernel, rfl, by decide⟩
theorem dRea_takeClosingEnd_6 : uD prog_7_method_11_code 6 (.aload_n 0) 1 7 := ⟨by decide +kernel, rfl⟩
theorem dRea_takeClosingEnd_7 : uD prog_7_method_11_code 7 (.iload_n 1) 1 8 := ⟨by decide +kernel, rfl⟩
theorem dRea_takeClosingEnd_8 : uD prog_7_method_11_code 8 (.iconst 1) 1 9 := ⟨by decide +kernel, rfl⟩
theorem dRea_takeClosingEnd_9 : uD prog_7_method_11_code 9 (.bipush (-5)) 2 11 := ⟨by decide +kernel, rfl⟩
theorem dRea_takeClosingEnd_11 : uD prog_7_method_11_code 11 (.invokevirtual 59) 3 14 := ⟨by decide +kernel, rfl⟩
theorem dRea_takeClosingEnd_14 : uD prog_7_method_11_code 14 (.return_) 1 15 := ⟨by decide +kernel, rfl⟩
theorem dRea_takeClosingEnd_15 : uD prog_7_method_11_code 15 (.aload_n 0) 1 16 := ⟨by decide +kernel, rfl⟩
theorem dRea_takeClosingEnd_16 : uD prog_7_method_11_code 16 (.iconst 2) 1 17 := ⟨by decide +kernel, rfl⟩
theorem dRea_takeClosingEnd_17 : uD prog_7_method_11_code 17 (.invokevirtual 99) 3 20 := ⟨by decide +kernel, rfl⟩
theorem dRea_takeClosingEnd_20 : uD prog_7_method_11_code 20 (.aload_n 0) 1 21 := ⟨by decide +kernel, rfl⟩
theorem dRea_takeClosingEnd_21 : uD prog_7_method_11_code 21 (.aload_n 0) 1 22 := ⟨by decide +kernel, rfl⟩
theorem dRea_takeClosingEnd_22 : uD prog_7_method_11_code 22 (.getfield 27) 3 25 := ⟨by decide +kernel, rfl⟩
theorem dRea_takeClosingEnd_25 : uD prog_7_method_11_code 25 (.invokevirtual 41) 3 28 := ⟨by decide +kernel, rfl⟩
theorem dRea_takeClosingEnd_28 : uB prog_7_method_11_code 28 (.ifCond .le) 31 36 := ⟨8, by decide +kernel, rfl, by decide⟩
theorem dRea_takeClosingEnd_31 : uD prog_7_method_11_code 31 (.bipush 6) 2 33 := ⟨by decide +kernel, rfl⟩
theorem dRea_takeClosingEnd_33 : uB prog_7_method_11_code 33 .goto 36 38 := ⟨5, by decide +kernel, rfl, by decide⟩
theorem dRea_takeClosingEnd_36 : uD prog_7_method_11_code 36 (.bipush 10) 2 38 := ⟨by decide +kernel, rfl⟩
theorem dRea_takeClosingEnd_38 : uD prog_7_method_11_code 38 (.putfield 38) 3 41 := ⟨by decide +kernel, rfl⟩
theorem dRea_takeClosingEnd_41 : uD prog_7_method_11_code 41 (.return_) 1 42 := ⟨by decide +kernel, rfl⟩
theorem dRea_isEndedByClosing_0 : uD prog_7_method_12_code 0 (.aload_n 0) 1 1 := ⟨by decide +kernel, rfl⟩
theorem dRea_isEndedByClosing_1 : uD prog_7_method_12_code 1 (.invokevirtual 90) 3 4 := ⟨by decide +kernel, rfl⟩
theorem dRea_isEndedByClosing_4 : uD prog_7_method_12_code 4 (.istore_n 3) 1 5 := ⟨by decide +kernel, rfl⟩
theorem dRea_isEndedByClosing_5 : uD prog_7_method_12_code 5 (.iload_n 3) 1 6 := ⟨by decide +kernel, rfl⟩
theorem dRea_isEndedByClosing_6 : uD prog_7_method_12_code 6 (.iload_n 1) 1 7 := ⟨by decide +kernel, rfl⟩
theorem dRea_isEndedByClosing_7 : uB prog_7_method_12_code 7 (.if_icmp .eq) 10 23 := ⟨16, by decide +kernel, rfl, by decide⟩
theorem dRea_isEndedByClosing_10 : uD prog_7_method_12_code 10 (.aload_n 2) 1 11 := ⟨by decide +kernel, rfl⟩
theorem dRea_isEndedByClosing_11 : uD prog_7_method_12_code 11 (.iload_n 1) 1 12 := ⟨by decide +kernel, rfl⟩
theorem dRea_isEndedByClosing_12 : uD prog_7_method_12_code 12 (.iload_n 3) 1 13 := ⟨by decide +kernel, rfl⟩
theorem dRea_isEndedByClosing_13 : uD prog_7_method_12_code 13 (.invokevirtual 93) 3 16 := ⟨by decide +kernel, rfl⟩
theorem dRea_isEndedByClosing_16 : uB prog_7_method_12_code 16 (.ifCond .eq) 19 23 := ⟨7, by decide +kernel, rfl, by decide⟩
theorem dRea_isEndedByClosing_19 : uD prog_7_method_12_code 19 (.iconst 1) 1 20 := ⟨by decide +kernel, rfl⟩
theorem dRea_isEndedByClosing_20 : uB prog_7_method_12_code 20 .goto 23 24 := ⟨4, by decide +kernel, rfl, by decide⟩
theorem dRea_isEndedByClosing_23 : uD prog_7_method_12_code 23 (.iconst 0) 1 24 := ⟨by decide +kernel, rfl⟩
theorem dRea_isEndedByClosing_24 : uD prog_7_method_12_code 24 (.ireturn) 1 25 := ⟨by decide +kernel, rfl⟩
theorem dRea_latestName_0 : uD prog_7_method_13_code 0 (.aload_n 0) 1 1 := ⟨by decide +kernel, rfl⟩
theorem dRea_latestName_1 : uD prog_7_method_13_code 1 (.getfield 12) 3 4 := ⟨by decide +kernel, rfl⟩
theorem dRea_latestName_4 : uD prog_7_method_13_code 4 (.getfield 102) 3 7 := ⟨by decide +kernel, rfl⟩
theorem dRea_latestName_7 : uD prog_7_method_13_code 7 (.aload_n 0) 1 8 := ⟨by decide +kernel, rfl⟩
theorem dRea_latestName_8 : uD prog_7_method_13_code 8 (.getfield 27) 3 11 := ⟨by decide +kernel, rfl⟩
theorem dRea_latestName_11 : uD prog_7_method_13_code 11 (.invokevirtual 105) 3 14 := ⟨by decide +kernel, rfl⟩
theorem dRea_latestName_14 : uD prog_7_method_13_code 14 (.invokevirtual 48) 3 17 := ⟨by decide +kernel, rfl⟩
theorem dRea_latestName_17 : uD prog_7_method_13_code 17 (.ireturn) 1 18 := ⟨by decide +kernel, rfl⟩
theorem dRea_close_0 : uD prog_7_method_14_code 0 (.aload_n 0) 1 1 := ⟨by decide +kernel, rfl⟩
theorem dRea_close_1 : uD prog_7_method_14_code 1 (.getfield 12) 3 4 := ⟨by decide +kernel, rfl⟩
theorem dRea_close_4 : uD prog_7_method_14_code 4 (.getfield 133) 3 7 := ⟨by decide +kernel, rfl⟩
theorem dRea_close_7 : uD prog_7_method_14_code 7 (.iload_n 1) 1 8 := ⟨by decide +kernel, rfl⟩
theorem dRea_close_8 : uD prog_7_method_14_code 8 (.invokevirtual 52) 3 11 := ⟨by decide +kernel, rfl⟩
theorem dRea_close_11 : uD prog_7_method_14_code 11 (.aload_n 0) 1 12 := ⟨by decide +kernel, rfl⟩
theorem dRea_close_12 : uD prog_7_method_14_code 12 (.getfield 27) 3 15 := ⟨by decide +kernel, rfl⟩
theorem dRea_close_15 : uD prog_7_method_14_code 15 (.invokevirtual 136) 3 18 := ⟨by decide +kernel, rfl⟩
theorem dRea_close_18 : uD prog_7_method_14_code 18 (.return_) 1 19 := ⟨by decide +kernel, rfl⟩
theorem dRea_tell_0 : uD prog_7_method_15_code 0 (.aload_n 0) 1 1 := ⟨by decide +kernel, rfl⟩
theorem dRea_tell_1 : uD prog_7_method_15_code 1 (.iload_n 1) 1 2 := ⟨by decide +kernel, rfl⟩
theorem dRea_tell_2 : uD prog_7_method_15_code 2 (.putfield 139) 3 5 := ⟨by decide +kernel, rfl⟩
theorem dRea_tell_5 : uD prog_7_method_15_code 5 (.aload_n 0) 1 6 := ⟨by decide +kernel, rfl⟩
theorem dRea_tell_6 : uD prog_7_method_15_code 6 (.iload_n 2) 1 7 := ⟨by decide +kernel, rfl⟩
theorem dRea_tell_7 : uD prog_7_method_15_code 7 (.putfield 18) 3 10 := ⟨by decide +kernel, rfl⟩
theorem dRea_tell_10 : uD prog_7_method_15_code 10 (.aload_n 0) 1 11 := ⟨by decide +kernel, rfl⟩
theorem dRea_tell_11 : uD prog_7_method_15_code 11 (.iload_n 3) 1 12 := ⟨by decide +kernel, rfl⟩
theorem dRea_tell_12 : uD prog_7_method_15_code 12 (.putfield 142) 3 15 := ⟨by decide +kernel, rfl⟩
theorem dRea_tell_15 : uD prog_7_method_15_code 15 (.return_) 1 16 := ⟨by decide +kernel, rfl⟩
theorem dRow_init_0 : uD prog_8_method_1_code 0 (.aload_n 0) 1 1 := ⟨by decide +kernel, rfl⟩
theorem dRow_init_1 : uD prog_8_method_1_code 1 (.invokespecial 3) 3 4 := ⟨by decide +kernel, rfl⟩
theorem dRow_init_4 : uD prog_8_method_1_code 4 (.aload_n 0) 1 5 := ⟨by decide +kernel, rfl⟩
theorem dRow_init_5 : uD prog_8_method_1_code 5 (.iload_n 1) 1 6 := ⟨by decide +kernel, rfl⟩
theorem dRow_init_6 : uD prog_8_method_1_code 6 (.iconst 0) 1 7 := ⟨by decide +kernel, rfl⟩
theorem dRow_init_7 : uD prog_8_method_1_code 7 (.invokestatic 9) 3 10 := ⟨by decide +kernel, rfl⟩
theorem dRow_init_10 : uD prog_8_method_1_code 10 (.newarray .int) 2 12 := ⟨by decide +kernel, rfl⟩
theorem dRow_init_12 : uD prog_8_method_1_code 12 (.putfield 15) 3 15 := ⟨by decide +kernel, rfl⟩
theorem dRow_init_15 : uD prog_8_method_1_code 15 (.return_) 1 16 := ⟨by decide +kernel, rfl⟩
theorem dRow_size_0 : uD prog_8_method_2_code 0 (.aload_n 0) 1 1 := ⟨by decide +kernel, rfl⟩
theorem dRow_size_1 : uD prog_8_method_2_code 1 (.getfield 21) 3 4 := ⟨by decide +kernel, rfl⟩
theorem dRow_size_4 : uD prog_8_method_2_code 4 (.ireturn) 1 5 := ⟨by decide +kernel, rfl⟩
theorem dRow_clear_0 : uD prog_8_method_3_code 0 (.aload_n 0) 1 1 := ⟨by decide +kernel, rfl⟩
theorem dRow_clear_1 : uD prog_8_method_3_code 1 (.iconst 0) 1 2 := ⟨by decide +kernel, rfl⟩
theorem dRow_clear_2 : uD prog_8_method_3_code 2 (.putfield 21) 3 5 := ⟨by decide +kernel, rfl⟩
theorem dRow_clear_5 : uD prog_8_method_3_code 5 (.return_) 1 6 := ⟨by decide +kernel, rfl⟩
theorem dRow_at_0 : uD prog_8_method_4_code 0 (.iload_n 1) 1 1 := ⟨by decide +kernel, rfl⟩
theorem dRow_at_1 : uB prog_8_method_4_code 1 (.ifCond .lt) 4 30 := ⟨29, by decide +kernel, rfl, by decide⟩
theorem dRow_at_4 : uD prog_8_method_4_code 4 (.iload_n 1) 1 5 := ⟨by decide +kernel, rfl⟩
theorem dRow_at_5 : uD prog_8_method_4_code 5 (.aload_n 0) 1 6 := ⟨by decide +kernel, rfl⟩
theorem dRow_at_6 : uD prog_8_method_4_code 6 (.getfield 21) 3 9 := ⟨by decide +kernel, rfl⟩
theorem dRow_at_9 : uB prog_8_method_4_code 9 (.if_icmp .ge) 12 30 := ⟨21, by decide +kernel, rfl, by decide⟩
theorem dRow_at_12 : uD prog_8_method_4_code 12 (.iload_n 1) 1 13 := ⟨by decide +kernel, rfl⟩
theorem dRow_at_13 : uD prog_8_method_4_code 13 (.aload_n 0) 1 14 := ⟨by decide +kernel, rfl⟩
theorem dRow_at_14 : uD prog_8_method_4_code 14 (.getfield 15) 3 17 := ⟨by decide +kernel, rfl⟩
theorem dRow_at_17 : uD prog_8_method_4_code 17 (.arraylength) 1 18 := ⟨by decide +kernel, rfl⟩
theorem dRow_at_18 : uB prog_8_method_4_code 18 (.if_icmp .ge) 21 30 := ⟨12, by decide +kernel, rfl, by decide⟩
theorem dRow_at_21 : uD prog_8_method_4_code 21 (.aload_n 0) 1 22 := ⟨by decide +kernel, rfl⟩
theorem dRow_at_22 : uD prog_8_method_4_code 22 (.getfield 15) 3 25 := ⟨by decide +kernel, rfl⟩
theorem dRow_at_25 : uD prog_8_method_4_code 25 (.iload_n 1) 1 26 := ⟨by decide +kernel, rfl⟩
theorem dRow_at_26 : uD prog_8_method_4_code 26 (.iaload) 1 27 := ⟨by decide +kernel, rfl⟩
theorem dRow_at_27 : uB prog_8_method_4_code 27 .goto 30 31 := ⟨4, by decide +kernel, rfl, by decide⟩
theorem dRow_at_30 : uD prog_8_method_4_code 30 (.iconst 0) 1 31 := ⟨by decide +kernel, rfl⟩
theorem dRow_at_31 : uD prog_8_method_4_code 31 (.ireturn) 1 32 := ⟨by decide +kernel, rfl⟩
theorem dRow_add_0 : uD prog_8_method_5_code 0 (.aload_n 0) 1 1 := ⟨by decide +kernel, rfl⟩
theorem dRow_add_1 : uD prog_8_method_5_code 1 (.getfield 21) 3 4 := ⟨by decide +kernel, rfl⟩
theorem dRow_add_4 : uB prog_8_method_5_code 4 (.ifCond .lt) 7 39 := ⟨35, by decide +kernel, rfl, by decide⟩
theorem dRow_add_7 : uD prog_8_method_5_code 7 (.aload_n 0) 1 8 := ⟨by decide +kernel, rfl⟩
theorem dRow_add_8 : uD prog_8_method_5_code 8 (.getfield 21) 3 11 := ⟨by decide +kernel, rfl⟩
theorem dRow_add_11 : uD prog_8_method_5_code 11 (.aload_n 0) 1 12 := ⟨by decide +kernel, rfl⟩
theorem dRow_add_12 : uD prog_8_method_5_code 12 (.getfield 15) 3 15 := ⟨by decide +kernel, rfl⟩
theorem dRow_add_15 : uD prog_8_method_5_code 15 (.arraylength) 1 16 := ⟨by decide +kernel, rfl⟩
theorem dRow_add_16 : uB prog_8_method_5_code 16 (.if_icmp .ge) 19 39 := ⟨23, by decide +kernel, rfl, by decide⟩
theorem dRow_add_19 : uD prog_8_method_5_code 19 (.aload_n 0) 1 20 := ⟨by decide +kernel, rfl⟩
theorem dRow_add_20 : uD prog_8_method_5_code 20 (.getfield 15) 3 23 := ⟨by decide +kernel, rfl⟩
theorem dRow_add_23 : uD prog_8_method_5_code 23 (.aload_n 0) 1 24 := ⟨by decide +kernel, rfl⟩
theorem dRow_add_24 : uD prog_8_method_5_code 24 (.getfield 21) 3 27 := ⟨by decide +kernel, rfl⟩
theorem dRow_add_27 : uD prog_8_method_5_code 27 (.iload_n 1) 1 28 := ⟨by decide +kernel, rfl⟩
theorem dRow_add_28 : uD prog_8_method_5_code 28 (.iastore) 1 29 := ⟨by decide +kernel, rfl⟩
theorem dRow_add_29 : uD prog_8_method_5_code 29 (.aload_n 0) 1 30 := ⟨by decide +kernel, rfl⟩
theorem dRow_add_30 : uD prog_8_method_5_code 30 (.dup) 1 31 := ⟨by decide +kernel, rfl⟩
theorem dRow_add_31 : uD prog_8_method_5_code 31 (.getfield 21) 3 34 := ⟨by decide +kernel, rfl⟩
theorem dRow_add_34 : uD prog_8_method_5_code 34 (.iconst 1) 1 35 := ⟨by decide +kernel, rfl⟩
theorem dRow_add_35 : uD prog_8_method_5_code 35 (.iadd) 1 36 := ⟨by decide +kernel, rfl⟩
theorem dRow_add_36 : uD prog_8_method_5_code 36 (.putfield 21) 3 39 := ⟨by decide +kernel, rfl⟩
theorem dRow_add_39 : uD prog_8_method_5_code 39 (.return_) 1 40 := ⟨by decide +kernel, rfl⟩
theorem dRow_put_0 : uD prog_8_method_6_code 0 (.iload_n 1) 1 1 := ⟨by decide +kernel, rfl⟩
theorem dRow_put_1 : uB prog_8_method_6_code 1 (.ifCond .lt) 4 28 := ⟨27, by decide +kernel, rfl, by decide⟩
theorem dRow_put_4 : uD prog_8_method_6_code 4 (.iload_n 1) 1 5 := ⟨by decide +kernel, rfl⟩
theorem dRow_put_5 : uD prog_8_method_6_code 5 (.aload_n 0) 1 6 := ⟨by decide +kernel, rfl⟩
theorem dRow_put_6 : uD prog_8_method_6_code 6 (.getfield 21) 3 9 := ⟨by decide +kernel, rfl⟩
theorem dRow_put_9 : uB prog_8_method_6_code 9 (.if_icmp .ge) 12 28 := ⟨19, by decide +kernel, rfl, by decide⟩
theorem dRow_put_12 : uD prog_8_method_6_code 12 (.iload_n 1) 1 13 := ⟨by decide +kernel, rfl⟩
theorem dRow_put_13 : uD prog_8_method_6_code 13 (.aload_n 0) 1 14 := ⟨by decide +kernel, rfl⟩
theorem dRow_put_14 : uD prog_8_method_6_code 14 (.getfield 15) 3 17 := ⟨by decide +kernel, rfl⟩
theorem dRow_put_17 : uD prog_8_method_6_code 17 (.arraylength) 1 18 := ⟨by decide +kernel, rfl⟩
theorem dRow_put_18 : uB prog_8_method_6_code 18 (.if_icmp .ge) 21 28 := ⟨10, by decide +kernel, rfl, by decide⟩
theorem dRow_put_21 : uD prog_8_method_6_code 21 (.aload_n 0) 1 22 := ⟨by decide +kernel, rfl⟩
theorem dRow_put_22 : uD prog_8_method_6_code 22 (.getfield 15) 3 25 := ⟨by decide +kernel, rfl⟩
theorem dRow_put_25 : uD prog_8_method_6_code 25 (.iload_n 1) 1 26 := ⟨by decide +kernel, rfl⟩
theorem dRow_put_26 : uD prog_8_method_6_code 26 (.iload_n 2) 1 27 := ⟨by decide +kernel, rfl⟩
theorem dRow_put_27 : uD prog_8_method_6_code 27 (.iastore) 1 28 := ⟨by decide +kernel, rfl⟩
theorem dRow_put_28 : uD prog_8_method_6_code 28 (.return_) 1 29 := ⟨by decide +kernel, rfl⟩
theorem dRow_fill_0 : uD prog_8_method_7_code 0 (.aload_n 0) 1 1 := ⟨by decide +kernel, rfl⟩
theorem dRow_fill_1 : uD prog_8_method_7_code 1 (.aload_n 0) 1 2 := ⟨by decide +kernel, rfl⟩
theorem dRow_fill_2 : uD prog_8_method_7_code 2 (.getfield 15) 3 5 := ⟨by decide +kernel, rfl⟩
theorem dRow_fill_5 : uD prog_8_method_7_code 5 (.arraylength) 1 6 := ⟨by decide +kernel, rfl⟩
theorem dRow_fill_6 : uD prog_8_method_7_code 6 (.putfield 21) 3 9 := ⟨by decide +kernel, rfl⟩
theorem dRow_fill_9 : uD prog_8_method_7_code 9 (.iconst 0) 1 10 := ⟨by decide +kernel, rfl⟩
theorem dRow_fill_10 : uD prog_8_method_7_code 10 (.istore_n 2) 1 11 := ⟨by decide +kernel, rfl⟩
theorem dRow_fill_11 : uD prog_8_method_7_code 11 (.iload_n 2) 1 12 := ⟨by decide +kernel, rfl⟩
theorem dRow_fill_12 : uD prog_8_method_7_code 12 (.aload_n 0) 1 13 := ⟨by decide +kernel, rfl⟩
theorem dRow_fill_13 : uD prog_8_method_7_code 13 (.getfield 15) 3 16 := ⟨by decide +kernel, rfl⟩
theorem dRow_fill_16 : uD prog_8_method_7_code 16 (.arraylength) 1 17 := ⟨by decide +kernel, rfl⟩
theorem dRow_fill_17 : uB prog_8_method_7_code 17 (.if_icmp .ge) 20 33 := ⟨16, by decide +kernel, rfl, by decide⟩
theorem dRow_fill_20 : uD prog_8_method_7_code 20 (.aload_n 0) 1 21 := ⟨by decide +kernel, rfl⟩
theorem dRow_fill_21 : uD prog_8_method_7_code 21 (.getfield 15) 3 24 := ⟨by decide +kernel, rfl⟩
theorem dRow_fill_24 : uD prog_8_method_7_code 24 (.iload_n 2) 1 25 := ⟨by decide +kernel, rfl⟩
theorem dRow_fill_25 : uD prog_8_method_7_code 25 (.iload_n 1) 1 26 := ⟨by decide +kernel, rfl⟩
theorem dRow_fill_26 : uD prog_8_method_7_code 26 (.iastore) 1 27 := ⟨by decide +kernel, rfl⟩
theorem dRow_fill_27 : uD prog_8_method_7_code 27 (.iinc 2 1) 3 30 := ⟨by decide +kernel, rfl⟩
theorem dRow_fill_30 : uB prog_8_method_7_code 30 .goto 33 11 := ⟨-19, by decide +kernel, rfl, by decide⟩
theorem dRow_fill_33 : uD prog_8_method_7_code 33 (.return_) 1 34 := ⟨by decide +kernel, rfl⟩
theorem dRow_last_0 : uD prog_8_method_8_code 0 (.aload_n 0) 1 1 := ⟨by decide +kernel, rfl⟩
theorem dRow_last_1 : uD prog_8_method_8_code 1 (.getfield 21) 3 4 := ⟨by decide +kernel, rfl⟩
theorem dRow_last_4 : uB prog_8_method_8_code 4 (.ifCond .le) 7 33 := ⟨29, by decide +kernel, rfl, by decide⟩
theorem dRow_last_7 : uD prog_8_method_8_code 7 (.aload_n 0) 1 8 := ⟨by decide +kernel, rfl⟩
theorem dRow_last_8 : uD prog_8_method_8_code 8 (.getfield 21) 3 11 := ⟨by decide +kernel, rfl⟩
theorem dRow_last_11 : uD prog_8_method_8_code 11 (.aload_n 0) 1 12 := ⟨by decide +kernel, rfl⟩
theorem dRow_last_12 : uD prog_8_method_8_code 12 (.getfield 15) 3 15 := ⟨by decide +kernel, rfl⟩
theorem dRow_last_15 : uD prog_8_method_8_code 15 (.arraylength) 1 16 := ⟨by decide +kernel, rfl⟩
theorem dRow_last_16 : uB prog_8_method_8_code 16 (.if_icmp .gt) 19 33 := ⟨17, by decide +kernel, rfl, by decide⟩
theorem dRow_last_19 : uD prog_8_method_8_code 19 (.aload_n 0) 1 20 := ⟨by decide +kernel, rfl⟩
theorem dRow_last_20 : uD prog_8_method_8_code 20 (.getfield 15) 3 23 := ⟨by decide +kernel, rfl⟩
theorem dRow_last_23 : uD prog_8_method_8_code 23 (.aload_n 0) 1 24 := ⟨by decide +kernel, rfl⟩
theorem dRow_last_24 : uD prog_8_method_8_code 24 (.getfield 21) 3 27 := ⟨by decide +kernel, rfl⟩
theorem dRow_last_27 : uD prog_8_method_8_code 27 (.iconst 1) 1 28 := ⟨by decide +kernel, rfl⟩
theorem dRow_last_28 : uD prog_8_method_8_code 28 (.isub) 1 29 := ⟨by decide +kernel, rfl⟩
theorem dRow_last_29 : uD prog_8_method_8_code 29 (.iaload) 1 30 := ⟨by decide +kernel, rfl⟩
theorem dRow_last_30 : uB prog_8_method_8_code 30 .goto 33 34 := ⟨4, by decide +kernel, rfl, by decide⟩
theorem dRow_last_33 : uD prog_8_method_8_code 33 (.iconst (-1)) 1 34 := ⟨by decide +kernel, rfl⟩
theorem dRow_last_34 : uD prog_8_method_8_code 34 (.ireturn) 1 35 := ⟨by decide +kernel, rfl⟩
theorem dRow_removeLast_0 : uD prog_8_method_9_code 0 (.aload_n 0) 1 1 := ⟨by decide +kernel, rfl⟩
theorem dRow_removeLast_1 : uD prog_8_method_9_code 1 (.getfield 21) 3 4 := ⟨by decide +kernel, rfl⟩
theorem dRow_removeLast_4 : uB prog_8_method_9_code 4 (.ifCond .le) 7 17 := ⟨13, by decide +kernel, rfl, by decide⟩
theorem dRow_removeLast_7 : uD prog_8_method_9_code 7 (.aload_n 0) 1 8 := ⟨by decide +kernel, rfl⟩
theorem dRow_removeLast_8 : uD prog_8_method_9_code 8 (.dup) 1 9 := ⟨by decide +kernel, rfl⟩
theorem dRow_removeLast_9 : uD prog_8_method_9_code 9 (.getfield 21) 3 12 := ⟨by decide +kernel, rfl⟩
theorem dRow_removeLast_12 : uD prog_8_method_9_code 12 (.iconst 1) 1 13 := ⟨by decide +kernel, rfl⟩
theorem dRow_removeLast_13 : uD prog_8_method_9_code 13 (.isub) 1 14 := ⟨by decide +kernel, rfl⟩
theorem dRow_removeLast_14 : uD prog_8_method_9_code 14 (.putfield 21) 3 17 := ⟨by decide +kernel, rfl⟩
theorem dRow_removeLast_17 : uD prog_8_method_9_code 17 (.return_) 1 18 := ⟨by decide +kernel, rfl⟩
theorem dRow_placeOf_0 : uD prog_8_method_10_code 0 (.iconst 0) 1 1 := ⟨by decide +kernel, rfl⟩
theorem dRow_placeOf_1 : uD prog_8_method_10_code 1 (.istore_n 2) 1 2 := ⟨by decide +kernel, rfl⟩
theorem dRow_placeOf_2 : uD prog_8_method_10_code 2 (.iload_n 2) 1 3 := ⟨by decide +kernel, rfl⟩
theorem dRow_placeOf_3 : uD prog_8_method_10_code 3 (.aload_n 0) 1 4 := ⟨by decide +kernel, rfl⟩
theorem dRow_placeOf_4 : uD prog_8_method_10_code 4 (.getfield 21) 3 7 := ⟨by decide +kernel, rfl⟩
theorem dRow_placeOf_7 : uB prog_8_method_10_code 7 (.if_icmp .ge) 10 37 := ⟨30, by decide +kernel, rfl, by decide⟩
theorem dRow_placeOf_10 : uD prog_8_method_10_code 10 (.iload_n 2) 1 11 := ⟨by decide +kernel, rfl⟩
theorem dRow_placeOf_11 : uD prog_8_method_10_code 11 (.aload_n 0) 1 12 := ⟨by decide +kernel, rfl⟩
theorem dRow_placeOf_12 : uD prog_8_method_10_code 12 (.getfield 15) 3 15 := ⟨by decide +kernel, rfl⟩
theorem dRow_placeOf_15 : uD prog_8_method_10_code 15 (.arraylength) 1 16 := ⟨by decide +kernel, rfl⟩
theorem dRow_placeOf_16 : uB prog_8_method_10_code 16 (.if_icmp .ge) 19 37 := ⟨21, by decide +kernel, rfl, by decide⟩
theorem dRow_placeOf_19 : uD prog_8_method_10_code 19 (.aload_n 0) 1 20 := ⟨by decide +kernel, rfl⟩
theorem dRow_placeOf_20 : uD prog_8_method_10_code 20 (.getfield 15) 3 23 := ⟨by decide +kernel, rfl⟩
theorem dRow_placeOf_23 : uD prog_8_method_10_code 23 (.iload_n 2) 1 24 := ⟨by decide +kernel, rfl⟩
theorem dRow_placeOf_24 : uD prog_8_method_10_code 24 (.iaload) 1 25 := ⟨by decide +kernel, rfl⟩
theorem dRow_placeOf_25 : uD prog_8_method_10_code 25 (.iload_n 1) 1 26 := ⟨by decide +kernel, rfl⟩
theorem dRow_placeOf_26 : uB prog_8_method_10_code 26 (.if_icmp .ne) 29 31 := ⟨5, by decide +kernel, rfl, by decide⟩
theorem dRow_placeOf_29 : uD prog_8_method_10_code 29 (.iload_n 2) 1 30 := ⟨by decide +kernel, rfl⟩
theorem dRow_placeOf_30 : uD prog_8_method_10_code 30 (.ireturn) 1 31 := ⟨by decide +kernel, rfl⟩
theorem dRow_placeOf_31 : uD prog_8_method_10_code 31 (.iinc 2 1) 3 34 := ⟨by decide +kernel, rfl⟩
theorem dRow_placeOf_34 : uB prog_8_method_10_code 34 .goto 37 2 := ⟨-32, by decide +kernel, rfl, by decide⟩
theorem dRow_placeOf_37 : uD prog_8_method_10_code 37 (.iconst (-1)) 1 38 := ⟨by decide +kernel, rfl⟩
theorem dRow_placeOf_38 : uD prog_8_method_10_code 38 (.ireturn) 1 39 := ⟨by decide +kernel, rfl⟩
theorem dRow_countOf_0 : uD prog_8_method_11_code 0 (.iconst 0) 1 1 := ⟨by decide +kernel, rfl⟩
theorem dRow_countOf_1 : uD prog_8_method_11_code 1 (.istore_n 2) 1 2 := ⟨by decide +kernel, rfl⟩
theorem dRow_countOf_2 : uD prog_8_method_11_code 2 (.iconst 0) 1 3 := ⟨by decide +kernel, rfl⟩
theorem dRow_countOf_3 : uD prog_8_method_11_code 3 (.istore_n 3) 1 4 := ⟨by decide +kernel, rfl⟩
theorem dRow_countOf_4 : uD prog_8_method_11_code 4 (.iload_n 3) 1 5 := ⟨by decide +kernel, rfl⟩
theorem dRow_countOf_5 : uD prog_8_method_11_code 5 (.aload_n 0) 1 6 := ⟨by decide +kernel, rfl⟩
theorem dRow_countOf_6 : uD prog_8_method_11_code 6 (.getfield 21) 3 9 := ⟨by decide +kernel, rfl⟩
theorem dRow_countOf_9 : uB prog_8_method_11_code 9 (.if_icmp .ge) 12 40 := ⟨31, by decide +kernel, rfl, by decide⟩
theorem dRow_countOf_12 : uD prog_8_method_11_code 12 (.iload_n 3) 1 13 := ⟨by decide +kernel, rfl⟩
theorem dRow_countOf_13 : uD prog_8_method_11_code 13 (.aload_n 0) 1 14 := ⟨by decide +kernel, rfl⟩
theorem dRow_countOf_14 : uD prog_8_method_11_code 14 (.getfield 15) 3 17 := ⟨by decide +kernel, rfl⟩
theorem dRow_countOf_17 : uD prog_8_method_11_code 17 (.arraylength) 1 18 := ⟨by decide +kernel, rfl⟩
theorem dRow_countOf_18 : uB prog_8_method_11_code 18 (.if_icmp .ge) 21 40 := ⟨22, by decide +kernel, rfl, by decide⟩
theorem dRow_countOf_21 : uD prog_8_method_11_code 21 (.aload_n 0) 1 22 := ⟨by decide +kernel, rfl⟩
theorem dRow_countOf_22 : uD prog_8_method_11_code 22 (.getfield 15) 3 25 := ⟨by decide +kernel, rfl⟩
theorem dRow_countOf_25 : uD prog_8_method_11_code 25 (.iload_n 3) 1 26 := ⟨by decide +kernel, rfl⟩
theorem dRow_countOf_26 : uD prog_8_method_11_code 26 (.iaload) 1 27 := ⟨by decide +kernel, rfl⟩
theorem dRow_countOf_27 : uD prog_8_method_11_code 27 (.iload_n 1) 1 28 := ⟨by decide +kernel, rfl⟩
theorem dRow_countOf_28 : uB prog_8_method_11_code 28 (.if_icmp .ne) 31 34 := ⟨6, by decide +kernel, rfl, by decide⟩
theorem dRow_countOf_31 : uD prog_8_method_11_code 31 (.iinc 2 1) 3 34 := ⟨by decide +kernel, rfl⟩
theorem dRow_countOf_34 : uD prog_8_method_11_code 34 (.iinc 3 1) 3 37 := ⟨by decide +kernel, rfl⟩
theorem dRow_countOf_37 : uB prog_8_method_11_code 37 .goto 40 4 := ⟨-33, by decide +kernel, rfl, by decide⟩
theorem dRow_countOf_40 : uD prog_8_method_11_code 40 (.iload_n 2) 1 41 := ⟨by decide +kernel, rfl⟩
theorem dRow_countOf_41 : uD prog_8_method_11_code 41 (.ireturn) 1 42 := ⟨by decide +kernel, rfl⟩
theorem dRow_become_0 : uD prog_8_method_12_code 0 (.aload_n 0) 1 1 := ⟨by decide +kernel, rfl⟩
theorem dRow_become_1 : uD prog_8_method_12_code 1 (.getfield 15) 3 4 := ⟨by decide +kernel, rfl⟩
theorem dRow_become_4 : uD prog_8_method_12_code 4 (.arraylength) 1 5 := ⟨by decide +kernel, rfl⟩
theorem dRow_become_5 : uD prog_8_method_12_code 5 (.aload_n 1) 1 6 := ⟨by decide +kernel, rfl⟩
theorem dRow_become_6 : uD prog_8_method_12_code 6 (.getfield 15) 3 9 := ⟨by decide +kernel, rfl⟩
theorem dRow_become_9 : uD prog_8_method_12_code 9 (.arraylength) 1 10 := ⟨by decide +kernel, rfl⟩
theorem dRow_become_10 : uD prog_8_method_12_code 10 (.invokestatic 25) 3 13 := ⟨by decide +kernel, rfl⟩
theorem dRow_become_13 : uD prog_8_method_12_code 13 (.istore_n 2) 1 14 := ⟨by decide +kernel, rfl⟩
theorem dRow_become_14 : uD prog_8_method_12_code 14 (.aload_n 0) 1 15 := ⟨by decide +kernel, rfl⟩
theorem dRow_become_15 : uD prog_8_method_12_code 15 (.aload_n 1) 1 16 := ⟨by decide +kernel, rfl⟩
theorem dRow_become_16 : uD prog_8_method_12_code 16 (.getfield 21) 3 19 := ⟨by decide +kernel, rfl⟩
theorem dRow_become_19 : uD prog_8_method_12_code 19 (.iload_n 2) 1 20 := ⟨by decide +kernel, rfl⟩
theorem dRow_become_20 : uD prog_8_method_12_code 20 (.invokestatic 25) 3 23 := ⟨by decide +kernel, rfl⟩
theorem dRow_become_23 : uD prog_8_method_12_code 23 (.iconst 0) 1 24 := ⟨by decide +kernel, rfl⟩
theorem dRow_become_24 : uD prog_8_method_12_code 24 (.invokestatic 9) 3 27 := ⟨by decide +kernel, rfl⟩
theorem dRow_become_27 : uD prog_8_method_12_code 27 (.putfield 21) 3 30 := ⟨by decide +kernel, rfl⟩
theorem dRow_become_30 : uD prog_8_method_12_code 30 (.iconst 0) 1 31 := ⟨by decide +kernel, rfl⟩
theorem dRow_become_31 : uD prog_8_method_12_code 31 (.istore_n 3) 1 32 := ⟨by decide +kernel, rfl⟩
theorem dRow_become_32 : uD prog_8_method_12_code 32 (.iload_n 3) 1 33 := ⟨by decide +kernel, rfl⟩
theorem dRow_become_33 : uD prog_8_method_12_code 33 (.aload_n 0) 1 34 := ⟨by decide +kernel, rfl⟩
theorem dRow_become_34 : uD prog_8_method_12_code 34 (.getfield 21) 3 37 := ⟨by decide +kernel, rfl⟩
theorem dRow_become_37 : uB prog_8_method_12_code 37 (.if_icmp .ge) 40 63 := ⟨26, by decide +kernel, rfl, by decide⟩
theorem dRow_become_40 : uD prog_8_method_12_code 40 (.iload_n 3) 1 41 := ⟨by decide +kernel, rfl⟩
theorem dRow_become_41 : uD prog_8_method_12_code 41 (.iload_n 2) 1 42 := ⟨by decide +kernel, rfl⟩
theorem dRow_become_42 : uB prog_8_method_12_code 42 (.if_icmp .ge) 45 63 := ⟨21, by decide +kernel, rfl, by decide⟩
theorem dRow_become_45 : uD prog_8_method_12_code 45 (.aload_n 0) 1 46 := ⟨by decide +kernel, rfl⟩
theorem dRow_become_46 : uD prog_8_method_12_code 46 (.getfield 15) 3 49 := ⟨by decide +kernel, rfl⟩
theorem dRow_become_49 : uD prog_8_method_12_code 49 (.iload_n 3) 1 50 := ⟨by decide +kernel, rfl⟩
theorem dRow_become_50 : uD prog_8_method_12_code 50 (.aload_n 1) 1 51 := ⟨by decide +kernel, rfl⟩
theorem dRow_become_51 : uD prog_8_method_12_code 51 (.getfield 15) 3 54 := ⟨by decide +kernel, rfl⟩
theorem dRow_become_54 : uD prog_8_method_12_code 54 (.iload_n 3) 1 55 := ⟨by decide +kernel, rfl⟩
theorem dRow_become_55 : uD prog_8_method_12_code 55 (.iaload) 1 56 := ⟨by decide +kernel, rfl⟩
theorem dRow_become_56 : uD prog_8_method_12_code 56 (.iastore) 1 57 := ⟨by decide +kernel, rfl⟩
theorem dRow_become_57 : uD prog_8_method_12_code 57 (.iinc 3 1) 3 60 := ⟨by decide +kernel, rfl⟩
theorem dRow_become_60 : uB prog_8_method_12_code 60 .goto 63 32 := ⟨-28, by decide +kernel, rfl, by decide⟩
theorem dRow_become_63 : uD prog_8_method_12_code 63 (.return_) 1 64 := ⟨by decide +kernel, rfl⟩
theorem dSta_init_0 : uD prog_9_method_1_code 0 (.aload_n 0) 1 1 := ⟨by decide +kernel, rfl⟩
theorem dSta_init_1 : uD prog_9_method_1_code 1 (.invokespecial 3) 3 4 := ⟨by decide +kernel, rfl⟩
theorem dSta_init_4 : uD prog_9_method_1_code 4 (.aload_n 0) 1 5 := ⟨by decide +kernel, rfl⟩
theorem dSta_init_5 : uD prog_9_method_1_code 5 (.new 9) 3 8 := ⟨by decide +kernel, rfl⟩
theorem dSta_init_8 : uD prog_9_method_1_code 8 (.dup) 1 9 := ⟨by decide +kernel, rfl⟩
theorem dSta_init_9 : uD prog_9_method_1_code 9 (.bipush 36) 2 11 := ⟨by decide +kernel, rfl⟩
theorem dSta_init_11 : uD prog_9_method_1_code 11 (.invokespecial 11) 3 14 := ⟨by decide +kernel, rfl⟩
theorem dSta_init_14 : uD prog_9_method_1_code 14 (.putfield 14) 3 17 := ⟨by decide +kernel, rfl⟩
theorem dSta_init_17 : uD prog_9_method_1_code 17 (.aload_n 0) 1 18 := ⟨by decide +kernel, rfl⟩
theorem dSta_init_18 : uD prog_9_method_1_code 18 (.bipush 6) 2 20 := ⟨by decide +kernel, rfl⟩
theorem dSta_init_20 : uD prog_9_method_1_code 20 (.anewarray 20) 3 23 := ⟨by decide +kernel, rfl⟩
theorem dSta_init_23 : uD prog_9_method_1_code 23 (.putfield 22) 3 26 := ⟨by decide +kernel, rfl⟩
theorem dSta_init_26 : uD prog_9_method_1_code 26 (.aload_n 0) 1 27 := ⟨by decide +kernel, rfl⟩
theorem dSta_init_27 : uD prog_9_method_1_code 27 (.getfield 14) 3 30 := ⟨by decide +kernel, rfl⟩
theorem dSta_init_30 : uD prog_9_method_1_code 30 (.iconst 0) 1 31 := ⟨by decide +kernel, rfl⟩
theorem dSta_init_31 : uD prog_9_method_1_code 31 (.invokevirtual 26) 3 34 := ⟨by decide +kernel, rfl⟩
theorem dSta_init_34 : uD prog_9_method_1_code 34 (.iconst 0) 1 35 := ⟨by decide +kernel, rfl⟩
theorem dSta_init_35 : uD prog_9_method_1_code 35 (.istore_n 1) 1 36 := ⟨by decide +kernel, rfl⟩
theorem dSta_init_36 : uD prog_9_method_1_code 36 (.iload_n 1) 1 37 := ⟨by decide +kernel, rfl⟩
theorem dSta_init_37 : uD prog_9_method_1_code 37 (.aload_n 0) 1 38 := ⟨by decide +kernel, rfl⟩
theorem dSta_init_38 : uD prog_9_method_1_code 38 (.getfield 22) 3 41 := ⟨by decide +kernel, rfl⟩
theorem dSta_init_41 : uD prog_9_method_1_code 41 (.arraylength) 1 42 := ⟨by decide +kernel, rfl⟩
theorem dSta_init_42 : uB prog_9_method_1_code 42 (.if_icmp .ge) 45 64 := ⟨22, by decide +kernel, rfl, by decide⟩
theorem dSta_init_45 : uD prog_9_method_1_code 45 (.aload_n 0) 1 46 := ⟨by decide +kernel, rfl⟩
theorem dSta_init_46 : uD prog_9_method_1_code 46 (.getfield 22) 3 49 := ⟨by decide +kernel, rfl⟩
theorem dSta_init_49 : uD prog_9_method_1_code 49 (.iload_n 1) 1 50 := ⟨by decide +kernel, rfl⟩
theorem dSta_init_50 : uD prog_9_method_1_code 50 (.new 20) 3 53 := ⟨by decide +kernel, rfl⟩
theorem dSta_init_53 : uD prog_9_method_1_code 53 (.dup) 1 54 := ⟨by decide +kernel, rfl⟩
theorem dSta_init_54 : uD prog_9_method_1_code 54 (.invokespecial 29) 3 57 := ⟨by decide +kernel, rfl⟩
theorem dSta_init_57 : uD prog_9_method_1_code 57 (.aastore) 1 58 := ⟨by decide +kernel, rfl⟩
theorem dSta_init_58 : uD prog_9_method_1_code 58 (.iinc 1 1) 3 61 := ⟨by decide +kernel, rfl⟩
theorem dSta_init_61 : uB prog_9_method_1_code 61 .goto 64 36 := ⟨-25, by decide +kernel, rfl, by decide⟩
theorem dSta_init_64 : uD prog_9_method_1_code 64 (.return_) 1 65 := ⟨by decide +kernel, rfl⟩
theorem dSta_become_0 : uD prog_9_method_2_code 0 (.aload_n 0) 1 1 := ⟨by decide +kernel, rfl⟩
theorem dSta_become_1 : uD prog_9_method_2_code 1 (.getfield 14) 3 4 := ⟨by decide +kernel, rfl⟩
theorem dSta_become_4 : uD prog_9_method_2_code 4 (.aload_n 1) 1 5 := ⟨by decide +kernel, rfl⟩
theorem dSta_become_5 : uD prog_9_method_2_code 5 (.getfield 14) 3 8 := ⟨by decide +kernel, rfl⟩
theorem dSta_become_8 : uD prog_9_method_2_code 8 (.invokevirtual 30) 3 11 := ⟨by decide +kernel, rfl⟩
theorem dSta_become_11 : uD prog_9_method_2_code 11 (.aload_n 0) 1 12 := ⟨by decide +kernel, rfl⟩
theorem dSta_become_12 : uD prog_9_method_2_code 12 (.iconst 0) 1 13 := ⟨by decide +kernel, rfl⟩
theorem dSta_become_13 : uD prog_9_method_2_code 13 (.putfield 34) 3 16 := ⟨by decide +kernel, rfl⟩
theorem dSta_become_16 : uD prog_9_method_2_code 16 (.iconst 0) 1 17 := ⟨by decide +kernel, rfl⟩
theorem dSta_become_17 : uD prog_9_method_2_code 17 (.istore_n 2) 1 18 := ⟨by decide +kernel, rfl⟩
theorem dSta_become_18 : uD prog_9_method_2_code 18 (.iload_n 2) 1 19 := ⟨by decide +kernel, rfl⟩
theorem dSta_become_19 : uD prog_9_method_2_code 19 (.aload_n 1) 1 20 := ⟨by decide +kernel, rfl⟩
theorem dSta_become_20 : uD prog_9_method_2_code 20 (.getfield 34) 3 23 := ⟨by decide +kernel, rfl⟩
theorem dSta_become_23 : uB prog_9_method_2_code 23 (.if_icmp .ge) 26 41 := ⟨18, by decide +kernel, rfl, by decide⟩
theorem dSta_become_26 : uD prog_9_method_2_code 26 (.aload_n 0) 1 27 := ⟨by decide +kernel, rfl⟩
theorem dSta_become_27 : uD prog_9_method_2_code 27 (.aload_n 1) 1 28 := ⟨by decide +kernel, rfl⟩
theorem dSta_become_28 : uD prog_9_method_2_code 28 (.iload_n 2) 1 29 := ⟨by decide +kernel, rfl⟩
theorem dSta_become_29 : uD prog_9_method_2_code 29 (.invokevirtual 38) 3 32 := ⟨by decide +kernel, rfl⟩
theorem dSta_become_32 : uD prog_9_method_2_code 32 (.invokevirtual 42) 3 35 := ⟨by decide +kernel, rfl⟩
theorem dSta_become_35 : uD prog_9_method_2_code 35 (.iinc 2 1) 3 38 := ⟨by decide +kernel, rfl⟩
theorem dSta_become_38 : uB prog_9_method_2_code 38 .goto 41 18 := ⟨-20, by decide +kernel, rfl, by decide⟩
theorem dSta_become_41 : uD prog_9_method_2_code 41 (.return_) 1 42 := ⟨by decide +kernel, rfl⟩
theorem dSta_ends_0 : uD prog_9_method_3_code 0 (.aload_n 0) 1 1 := ⟨by decide +kernel, rfl⟩
theorem dSta_ends_1 : uD prog_9_method_3_code 1 (.getfield 14) 3 4 := ⟨by decide +kernel, rfl⟩
theorem dSta_ends_4 : uD prog_9_method_3_code 4 (.iload_n 1) 1 5 := ⟨by decide +kernel, rfl⟩
theorem dSta_ends_5 : uD prog_9_method_3_code 5 (.bipush 6) 2 7 := ⟨by decide +kernel, rfl⟩
theorem dSta_ends_7 : uD prog_9_method_3_code 7 (.imul) 1 8 := ⟨by decide +kernel, rfl⟩
theorem dSta_ends_8 : uD prog_9_method_3_code 8 (.iload_n 2) 1 9 := ⟨by decide +kernel, rfl⟩
theorem dSta_ends_9 : uD prog_9_method_3_code 9 (.iadd) 1 10 := ⟨by decide +kernel, rfl⟩
theorem dSta_ends_10 : uD prog_9_method_3_code 10 (.invokevirtual 46) 3 13 := ⟨by decide +kernel, rfl⟩
theorem dSta_ends_13 : uD prog_9_method_3_code 13 (.iconst 1) 1 14 := ⟨by decide +kernel, rfl⟩
theorem dSta_ends_14 : uB prog_9_method_3_code 14 (.if_icmp .ne) 17 21 := ⟨7, by decide +kernel, rfl, by decide⟩
theorem dSta_ends_17 : uD prog_9_method_3_code 17 (.iconst 1) 1 18 := ⟨by decide +kernel, rfl⟩
theorem dSta_ends_18 : uB prog_9_method_3_code 18 .goto 21 22 := ⟨4, by decide +kernel, rfl, by decide⟩
theorem dSta_ends_21 : uD prog_9_method_3_code 21 (.iconst 0) 1 22 := ⟨by decide +kernel, rfl⟩
theorem dSta_ends_22 : uD prog_9_method_3_code 22 (.ireturn) 1 23 := ⟨by decide +kernel, rfl⟩
theorem dSta_setEnds_0 : uD prog_9_method_4_code 0 (.aload_n 0) 1 1 := ⟨by decide +kernel, rfl⟩
theorem dSta_setEnds_1 : uD prog_9_method_4_code 1 (.getfield 14) 3 4 := ⟨by decide +kernel, rfl⟩
theorem dSta_setEnds_4 : uD prog_9_method_4_code 4 (.iload_n 1) 1 5 := ⟨by decide +kernel, rfl⟩
theorem dSta_setEnds_5 : uD prog_9_method_4_code 5 (.bipush 6) 2 7 := ⟨by decide +kernel, rfl⟩
theorem dSta_setEnds_7 : uD prog_9_method_4_code 7 (.imul) 1 8 := ⟨by decide +kernel, rfl⟩
theorem dSta_setEnds_8 : uD prog_9_method_4_code 8 (.iload_n 2) 1 9 := ⟨by decide +kernel, rfl⟩
theorem dSta_setEnds_9 : uD prog_9_method_4_code 9 (.iadd) 1 10 := ⟨by decide +kernel, rfl⟩
theorem dSta_setEnds_10 : uD prog_9_method_4_code 10 (.iload_n 3) 1 11 := ⟨by decide +kernel, rfl⟩
theorem dSta_setEnds_11 : uB prog_9_method_4_code 11 (.ifCond .eq) 14 18 := ⟨7, by decide +kernel, rfl, by decide⟩
theorem dSta_setEnds_14 : uD prog_9_method_4_code 14 (.iconst 1) 1 15 := ⟨by decide +kernel, rfl⟩
theorem dSta_setEnds_15 : uB prog_9_method_4_code 15 .goto 18 19 := ⟨4, by decide +kernel, rfl, by decide⟩
theorem dSta_setEnds_18 : uD prog_9_method_4_code 18 (.iconst 0) 1 19 := ⟨by decide +kernel, rfl⟩
theorem dSta_setEnds_19 : uD prog_9_method_4_code 19 (.invokevirtual 50) 3 22 := ⟨by decide +kernel, rfl⟩
theorem dSta_setEnds_22 : uD prog_9_method_4_code 22 (.return_) 1 23 := ⟨by decide +kernel, rfl⟩
theorem dSta_ruleCount_0 : uD prog_9_method_5_code 0 (.aload_n 0) 1 1 := ⟨by decide +kernel, rfl⟩
theorem dSta_ruleCount_1 : uD prog_9_method_5_code 1 (.getfield 14) 3 4 := ⟨by decide +kernel, rfl⟩
theorem dSta_ruleCount_4 : uD prog_9_method_5_code 4 (.iconst 1) 1 5 := ⟨by decide +kernel, rfl⟩
theorem dSta_ruleCount_5 : uD prog_9_method_5_code 5 (.invokevirtual 54) 3 8 := ⟨by decide +kernel, rfl⟩
theorem dSta_ruleCount_8 : uD prog_9_method_5_code 8 (.ireturn) 1 9 := ⟨by decide +kernel, rfl⟩
theorem dSta_hasPage_0 : uD prog_9_method_6_code 0 (.iload_n 1) 1 1 := ⟨by decide +kernel, rfl⟩
theorem dSta_hasPage_1 : uB prog_9_method_6_code 1 (.ifCond .lt) 4 16 := ⟨15, by decide +kernel, rfl, by decide⟩
theorem dSta_hasPage_4 : uD prog_9_method_6_code 4 (.iload_n 1) 1 5 := ⟨by decide +kernel, rfl⟩
theorem dSta_hasPage_5 : uD prog_9_method_6_code 5 (.aload_n 0) 1 6 := ⟨by decide +kernel, rfl⟩
theorem dSta_hasPage_6 : uD prog_9_method_6_code 6 (.getfield 34) 3 9 := ⟨by decide +kernel, rfl⟩
theorem dSta_hasPage_9 : uB prog_9_method_6_code 9 (.if_icmp .ge) 12 16 := ⟨7, by decide +kernel, rfl, by decide⟩
theorem dSta_hasPage_12 : uD prog_9_method_6_code 12 (.iconst 1) 1 13 := ⟨by decide +kernel, rfl⟩
theorem dSta_hasPage_13 : uB prog_9_method_6_code 13 .goto 16 17 := ⟨4, by decide +kernel, rfl, by decide⟩
theorem dSta_hasPage_16 : uD prog_9_method_6_code 16 (.iconst 0) 1 17 := ⟨by decide +kernel, rfl⟩
theorem dSta_hasPage_17 : uD prog_9_method_6_code 17 (.ireturn) 1 18 := ⟨by decide +kernel, rfl⟩
theorem dSta_pageAt_0 : uD prog_9_method_7_code 0 (.aload_n 0) 1 1 := ⟨by decide +kernel, rfl⟩
theorem dSta_pageAt_1 : uD prog_9_method_7_code 1 (.getfield 22) 3 4 := ⟨by decide +kernel, rfl⟩
theorem dSta_pageAt_4 : uD prog_9_method_7_code 4 (.iload_n 1) 1 5 := ⟨by decide +kernel, rfl⟩
theorem dSta_pageAt_5 : uB prog_9_method_7_code 5 (.ifCond .lt) 8 21 := ⟨16, by decide +kernel, rfl, by decide⟩
theorem dSta_pageAt_8 : uD prog_9_method_7_code 8 (.iload_n 1) 1 9 := ⟨by decide +kernel, rfl⟩
theorem dSta_pageAt_9 : uD prog_9_method_7_code 9 (.aload_n 0) 1 10 := ⟨by decide +kernel, rfl⟩
theorem dSta_pageAt_10 : uD prog_9_method_7_code 10 (.getfield 22) 3 13 := ⟨by decide +kernel, rfl⟩
theorem dSta_pageAt_13 : uD prog_9_method_7_code 13 (.arraylength) 1 14 := ⟨by decide +kernel, rfl⟩
theorem dSta_pageAt_14 : uB prog_9_method_7_code 14 (.if_icmp .ge) 17 21 := ⟨7, by decide +kernel, rfl, by decide⟩
theorem dSta_pageAt_17 : uD prog_9_method_7_code 17 (.iload_n 1) 1 18 := ⟨by decide +kernel, rfl⟩
theorem dSta_pageAt_18 : uB prog_9_method_7_code 18 .goto 21 22 := ⟨4, by decide +kernel, rfl, by decide⟩
theorem dSta_pageAt_21 : uD prog_9_method_7_code 21 (.iconst 0) 1 22 := ⟨by decide +kernel, rfl⟩
theorem dSta_pageAt_22 : uD prog_9_method_7_code 22 (.aaload) 1 23 := ⟨by decide +kernel, rfl⟩
theorem dSta_pageAt_23 : uD prog_9_method_7_code 23 (.areturn) 1 24 := ⟨by decide +kernel, rfl⟩
theorem dSta_addPage_0 : uD prog_9_method_8_code 0 (.aload_n 0) 1 1 := ⟨by decide +kernel, rfl⟩
theorem dSta_addPage_1 : uD prog_9_method_8_code 1 (.getfield 34) 3 4 := ⟨by decide +kernel, rfl⟩
theorem dSta_addPage_4 : uB prog_9_method_8_code 4 (.ifCond .lt) 7 42 := ⟨38, by decide +kernel, rfl, by decide⟩
theorem dSta_addPage_7 : uD prog_9_method_8_code 7 (.aload_n 0) 1 8 := ⟨by decide +kernel, rfl⟩
theorem dSta_addPage_8 : uD prog_9_method_8_code 8 (.getfield 34) 3 11 := ⟨by decide +kernel, rfl⟩
theorem dSta_addPage_11 : uD prog_9_method_8_code 11 (.aload_n 0) 1 12 := ⟨by decide +kernel, rfl⟩
theorem dSta_addPage_12 : uD prog_9_method_8_code 12 (.getfield 22) 3 15 := ⟨by decide +kernel, rfl⟩
theorem dSta_addPage_15 : uD prog_9_method_8_code 15 (.arraylength) 1 16 := ⟨by decide +kernel, rfl⟩
theorem dSta_addPage_16 : uB prog_9_method_8_code 16 (.if_icmp .ge) 19 42 := ⟨26, by decide +kernel, rfl, by decide⟩
theorem dSta_addPage_19 : uD prog_9_method_8_code 19 (.aload_n 0) 1 20 := ⟨by decide +kernel, rfl⟩
theorem dSta_addPage_20 : uD prog_9_method_8_code 20 (.getfield 22) 3 23 := ⟨by decide +kernel, rfl⟩
theorem dSta_addPage_23 : uD prog_9_method_8_code 23 (.aload_n 0) 1 24 := ⟨by decide +kernel, rfl⟩
theorem dSta_addPage_24 : uD prog_9_method_8_code 24 (.getfield 34) 3 27 := ⟨by decide +kernel, rfl⟩
theorem dSta_addPage_27 : uD prog_9_method_8_code 27 (.aaload) 1 28 := ⟨by decide +kernel, rfl⟩
theorem dSta_addPage_28 : uD prog_9_method_8_code 28 (.aload_n 1) 1 29 := ⟨by decide +kernel, rfl⟩
theorem dSta_addPage_29 : uD prog_9_method_8_code 29 (.invokevirtual 57) 3 32 := ⟨by decide +kernel, rfl⟩
theorem dSta_addPage_32 : uD prog_9_method_8_code 32 (.aload_n 0) 1 33 := ⟨by decide +kernel, rfl⟩
theorem dSta_addPage_33 : uD prog_9_method_8_code 33 (.dup) 1 34 := ⟨by decide +kernel, rfl⟩
theorem dSta_addPage_34 : uD prog_9_method_8_code 34 (.getfield 34) 3 37 := ⟨by decide +kernel, rfl⟩
theorem dSta_addPage_37 : uD prog_9_method_8_code 37 (.iconst 1) 1 38 := ⟨by decide +kernel, rfl⟩
theorem dSta_addPage_38 : uD prog_9_method_8_code 38 (.iadd) 1 39 := ⟨by decide +kernel, rfl⟩
theorem dSta_addPage_39 : uD prog_9_method_8_code 39 (.putfield 34) 3 42 := ⟨by decide +kernel, rfl⟩
theorem dSta_addPage_42 : uD prog_9_method_8_code 42 (.return_) 1 43 := ⟨by decide +kernel, rfl⟩
theorem dSta_bringToFront_0 : uD prog_9_method_9_code 0 (.iload_n 1) 1 1 := ⟨by decide +kernel, rfl⟩
theorem dSta_bringToFront_1 : uB prog_9_method_9_code 1 (.ifCond .lt) 4 13 := ⟨12, by decide +kernel, rfl, by decide⟩
theorem dSta_bringToFront_4 : uD prog_9_method_9_code 4 (.iload_n 1) 1 5 := ⟨by decide +kernel, rfl⟩
theorem dSta_bringToFront_5 : uD prog_9_method_9_code 5 (.aload_n 0) 1 6 := ⟨by decide +kernel, rfl⟩
theorem dSta_bringToFront_6 : uD prog_9_method_9_code 6 (.getfield 22) 3 9 := ⟨by decide +kernel, rfl⟩
theorem dSta_bringToFront_9 : uD prog_9_method_9_code 9 (.arraylength) 1 10 := ⟨by decide +kernel, rfl⟩
theorem dSta_bringToFront_10 : uB prog_9_method_9_code 10 (.if_icmp .lt) 13 14 := ⟨4, by decide +kernel, rfl, by decide⟩
theorem dSta_bringToFront_13 : uD prog_9_method_9_code 13 (.return_) 1 14 := ⟨by decide +kernel, rfl⟩
theorem dSta_bringToFront_14 : uD prog_9_method_9_code 14 (.aload_n 0) 1 15 := ⟨by decide +kernel, rfl⟩
theorem dSta_bringToFront_15 : uD prog_9_method_9_code 15 (.getfield 22) 3 18 := ⟨by decide +kernel, rfl⟩
theorem dSta_bringToFront_18 : uD prog_9_method_9_code 18 (.iload_n 1) 1 19 := ⟨by decide +kernel, rfl⟩
theorem dSta_bringToFront_19 : uD prog_9_method_9_code 19 (.aaload) 1 20 := ⟨by decide +kernel, rfl⟩
theorem dSta_bringToFront_20 : uD prog_9_method_9_code 20 (.astore_n 2) 1 21 := ⟨by decide +kernel, rfl⟩
theorem dSta_bringToFront_21 : uD prog_9_method_9_code 21 (.iload_n 1) 1 22 := ⟨by decide +kernel, rfl⟩
theorem dSta_bringToFront_22 : uD prog_9_method_9_code 22 (.istore_n 3) 1 23 := ⟨by decide +kernel, rfl⟩
theorem dSta_bringToFront_23 : uD prog_9_method_9_code 23 (.iload_n 3) 1 24 := ⟨by decide +kernel, rfl⟩
theorem dSta_bringToFront_24 : uB prog_9_method_9_code 24 (.ifCond .le) 27 47 := ⟨23, by decide +kernel, rfl, by decide⟩
theorem dSta_bringToFront_27 : uD prog_9_method_9_code 27 (.aload_n 0) 1 28 := ⟨by decide +kernel, rfl⟩
theorem dSta_bringToFront_28 : uD prog_9_method_9_code 28 (.getfield 22) 3 31 := ⟨by decide +kernel, rfl⟩
theorem dSta_bringToFront_31 : uD prog_9_method_9_code 31 (.iload_n 3) 1 32 := ⟨by decide +kernel, rfl⟩
theorem dSta_bringToFront_32 : uD prog_9_method_9_code 32 (.aload_n 0) 1 33 := ⟨by decide +kernel, rfl⟩
theorem dSta_bringToFront_33 : uD prog_9_method_9_code 33 (.getfield 22) 3 36 := ⟨by decide +kernel, rfl⟩
theorem dSta_bringToFront_36 : uD prog_9_method_9_code 36 (.iload_n 3) 1 37 := ⟨by decide +kernel, rfl⟩
theorem dSta_bringToFront_37 : uD prog_9_method_9_code 37 (.iconst 1) 1 38 := ⟨by decide +kernel, rfl⟩
theorem dSta_bringToFront_38 : uD prog_9_method_9_code 38 (.isub) 1 39 := ⟨by decide +kernel, rfl⟩
theorem dSta_bringToFront_39 : uD prog_9_method_9_code 39 (.aaload) 1 40 := ⟨by decide +kernel, rfl⟩
theorem dSta_bringToFront_40 : uD prog_9_method_9_code 40 (.aastore) 1 41 := ⟨by decide +kernel, rfl⟩
theorem dSta_bringToFront_41 : uD prog_9_method_9_code 41 (.iinc 3 (-1)) 3 44 := ⟨by decide +kernel, rfl⟩
theorem dSta_bringToFront_44 : uB prog_9_method_9_code 44 .goto 47 23 := ⟨-21, by decide +kernel, rfl, by decide⟩
theorem dSta_bringToFront_47 : uD prog_9_method_9_code 47 (.aload_n 0) 1 48 := ⟨by decide +kernel, rfl⟩
theorem dSta_bringToFront_48 : uD prog_9_method_9_code 48 (.getfield 22) 3 51 := ⟨by decide +kernel, rfl⟩
theorem dSta_bringToFront_51 : uD prog_9_method_9_code 51 (.iconst 0) 1 52 := ⟨by decide +kernel, rfl⟩
theorem dSta_bringToFront_52 : uD prog_9_method_9_code 52 (.aload_n 2) 1 53 := ⟨by decide +kernel, rfl⟩
theorem dSta_bringToFront_53 : uD prog_9_method_9_code 53 (.aastore) 1 54 := ⟨by decide +kernel, rfl⟩
theorem dSta_bringToFront_54 : uD prog_9_method_9_code 54 (.return_) 1 55 := ⟨by decide +kernel, rfl⟩
theorem dSta_letterCount_0 : uD prog_9_method_10_code 0 (.iconst 0) 1 1 := ⟨by decide +kernel, rfl⟩
theorem dSta_letterCount_1 : uD prog_9_method_10_code 1 (.istore_n 1) 1 2 := ⟨by decide +kernel, rfl⟩
theorem dSta_letterCount_2 : uD prog_9_method_10_code 2 (.iconst 0) 1 3 := ⟨by decide +kernel, rfl⟩
theorem dSta_letterCount_3 : uD prog_9_method_10_code 3 (.istore_n 2) 1 4 := ⟨by decide +kernel, rfl⟩
theorem dSta_letterCount_4 : uD prog_9_method_10_code 4 (.iload_n 2) 1 5 := ⟨by decide +kernel, rfl⟩
theorem dSta_letterCount_5 : uD prog_9_method_10_code 5 (.aload_n 0) 1 6 := ⟨by decide +kernel, rfl⟩
theorem dSta_letterCount_6 : uD prog_9_method_10_code 6 (.getfield 34) 3 9 := ⟨by decide +kernel, rfl⟩
theorem dSta_letterCount_9 : uB prog_9_method_10_code 9 (.if_icmp .ge) 12 32 := ⟨23, by decide +kernel, rfl, by decide⟩
theorem dSta_letterCount_12 : uD prog_9_method_10_code 12 (.iload_n 1) 1 13 := ⟨by decide +kernel, rfl⟩
theorem dSta_letterCount_13 : uD prog_9_method_10_code 13 (.aload_n 0) 1 14 := ⟨by decide +kernel, rfl⟩
theorem dSta_letterCount_14 : uD prog_9_method_10_code 14 (.iload_n 2) 1 15 := ⟨by decide +kernel, rfl⟩
theorem dSta_letterCount_15 : uD prog_9_method_10_code 15 (.invokevirtual 38) 3 18 := ⟨by decide +kernel, rfl⟩
theorem dSta_letterCount_18 : uD prog_9_method_10_code 18 (.getfield 59) 3 21 := ⟨by decide +kernel, rfl⟩
theorem dSta_letterCount_21 : uD prog_9_method_10_code 21 (.invokevirtual 62) 3 24 := ⟨by decide +kernel, rfl⟩
theorem dSta_letterCount_24 : uD prog_9_method_10_code 24 (.iadd) 1 25 := ⟨by decide +kernel, rfl⟩
theorem dSta_letterCount_25 : uD prog_9_method_10_code 25 (.istore_n 1) 1 26 := ⟨by decide +kernel, rfl⟩
theorem dSta_letterCount_26 : uD prog_9_method_10_code 26 (.iinc 2 1) 3 29 := ⟨by decide +kernel, rfl⟩
theorem dSta_letterCount_29 : uB prog_9_method_10_code 29 .goto 32 4 := ⟨-25, by decide +kernel, rfl, by decide⟩
theorem dSta_letterCount_32 : uD prog_9_method_10_code 32 (.iload_n 1) 1 33 := ⟨by decide +kernel, rfl⟩
theorem dSta_letterCount_33 : uD prog_9_method_10_code 33 (.ireturn) 1 34 := ⟨by decide +kernel, rfl⟩
theorem dSta_stepCount_0 : uD prog_9_method_11_code 0 (.iconst 0) 1 1 := ⟨by decide +kernel, rfl⟩
theorem dSta_stepCount_1 : uD prog_9_method_11_code 1 (.istore_n 2) 1 2 := ⟨by decide +kernel, rfl⟩
theorem dSta_stepCount_2 : uD prog_9_method_11_code 2 (.iconst 0) 1 3 := ⟨by decide +kernel, rfl⟩
theorem dSta_stepCount_3 : uD prog_9_method_11_code 3 (.istore_n 3) 1 4 := ⟨by decide +kernel, rfl⟩
theorem dSta_stepCount_4 : uD prog_9_method_11_code 4 (.iload_n 3) 1 5 := ⟨by decide +kernel, rfl⟩
theorem dSta_stepCount_5 : uD prog_9_method_11_code 5 (.aload_n 0) 1 6 := ⟨by decide +kernel, rfl⟩
theorem dSta_stepCount_6 : uD prog_9_method_11_code 6 (.getfield 34) 3 9 := ⟨by decide +kernel, rfl⟩
theorem dSta_stepCount_9 : uB prog_9_method_11_code 9 (.if_icmp .ge) 12 33 := ⟨24, by decide +kernel, rfl, by decide⟩
theorem dSta_stepCount_12 : uD prog_9_method_11_code 12 (.iload_n 2) 1 13 := ⟨by decide +kernel, rfl⟩
theorem dSta_stepCount_13 : uD prog_9_method_11_code 13 (.aload_n 0) 1 14 := ⟨by decide +kernel, rfl⟩
theorem dSta_stepCount_14 : uD prog_9_method_11_code 14 (.iload_n 3) 1 15 := ⟨by decide +kernel, rfl⟩
theorem dSta_stepCount_15 : uD prog_9_method_11_code 15 (.invokevirtual 38) 3 18 := ⟨by decide +kernel, rfl⟩
theorem dSta_stepCount_18 : uD prog_9_method_11_code 18 (.getfield 66) 3 21 := ⟨by decide +kernel, rfl⟩
theorem dSta_stepCount_21 : uD prog_9_method_11_code 21 (.iload_n 1) 1 22 := ⟨by decide +kernel, rfl⟩
theorem dSta_stepCount_22 : uD prog_9_method_11_code 22 (.invokevirtual 54) 3 25 := ⟨by decide +kernel, rfl⟩
theorem dSta_stepCount_25 : uD prog_9_method_11_code 25 (.iadd) 1 26 := ⟨by decide +kernel, rfl⟩
theorem dSta_stepCount_26 : uD prog_9_method_11_code 26 (.istore_n 2) 1 27 := ⟨by decide +kernel, rfl⟩
theorem dSta_stepCount_27 : uD prog_9_method_11_code 27 (.iinc 3 1) 3 30 := ⟨by decide +kernel, rfl⟩
theorem dSta_stepCount_30 : uB prog_9_method_11_code 30 .goto 33 4 := ⟨-26, by decide +kernel, rfl, by decide⟩
theorem dSta_stepCount_33 : uD prog_9_method_11_code 33 (.iload_n 2) 1 34 := ⟨by decide +kernel, rfl⟩
theorem dSta_stepCount_34 : uD prog_9_method_11_code 34 (.ireturn) 1 35 := ⟨by decide +kernel, rfl⟩
theorem dUmp_init_0 : uD prog_1_method_1_code 0 (.aload_n 0) 1 1 := ⟨by decide +kernel, rfl⟩
theorem dUmp_init_1 : uD prog_1_method_1_code 1 (.invokespecial 1) 3 4 := ⟨by decide +kernel, rfl⟩
theorem dUmp_init_4 : uD prog_1_method_1_code 4 (.aload_n 0) 1 5 := ⟨by decide +kernel, rfl⟩
theorem dUmp_init_5 : uD prog_1_method_1_code 5 (.new 7) 3 8 := ⟨by decide +kernel, rfl⟩
theorem dUmp_init_8 : uD prog_1_method_1_code 8 (.dup) 1 9 := ⟨by decide +kernel, rfl⟩
theorem dUmp_init_9 : uD prog_1_method_1_code 9 (.bipush 100) 2 11 := ⟨by decide +kernel, rfl⟩
theorem dUmp_init_11 : uD prog_1_method_1_code 11 (.invokespecial 11) 3 14 := ⟨by decide +kernel, rfl⟩
theorem dUmp_init_14 : uD prog_1_method_1_code 14 (.putfield 14) 3 17 := ⟨by decide +kernel, rfl⟩
theorem dUmp_init_17 : uD prog_1_method_1_code 17 (.aload_n 0) 1 18 := ⟨by decide +kernel, rfl⟩
theorem dUmp_init_18 : uD prog_1_method_1_code 18 (.new 18) 3 21 := ⟨by decide +kernel, rfl⟩
theorem dUmp_init_21 : uD prog_1_method_1_code 21 (.dup) 1 22 := ⟨by decide +kernel, rfl⟩
theorem dUmp_init_22 : uD prog_1_method_1_code 22 (.invokespecial 20) 3 25 := ⟨by decide +kernel, rfl⟩
theorem dUmp_init_25 : uD prog_1_method_1_code 25 (.putfield 21) 3 28 := ⟨by decide +kernel, rfl⟩
theorem dUmp_init_28 : uD prog_1_method_1_code 28 (.aload_n 0) 1 29 := ⟨by decide +kernel, rfl⟩
theorem dUmp_init_29 : uD prog_1_method_1_code 29 (.new 25) 3 32 := ⟨by decide +kernel, rfl⟩
theorem dUmp_init_32 : uD prog_1_method_1_code 32 (.dup) 1 33 := ⟨by decide +kernel, rfl⟩
theorem dUmp_init_33 : uD prog_1_method_1_code 33 (.invokespecial 27) 3 36 := ⟨by decide +kernel, rfl⟩
theorem dUmp_init_36 : uD prog_1_method_1_code 36 (.putfield 28) 3 39 := ⟨by decide +kernel, rfl⟩
theorem dUmp_init_39 : uD prog_1_method_1_code 39 (.aload_n 0) 1 40 := ⟨by decide +kernel, rfl⟩
theorem dUmp_init_40 : uD prog_1_method_1_code 40 (.new 32) 3 43 := ⟨by decide +kernel, rfl⟩
theorem dUmp_init_43 : uD prog_1_method_1_code 43 (.dup) 1 44 := ⟨by decide +kernel, rfl⟩
theorem dUmp_init_44 : uD prog_1_method_1_code 44 (.invokespecial 34) 3 47 := ⟨by decide +kernel, rfl⟩
theorem dUmp_init_47 : uD prog_1_method_1_code 47 (.putfield 35) 3 50 := ⟨by decide +kernel, rfl⟩
theorem dUmp_init_50 : uD prog_1_method_1_code 50 (.aload_n 0) 1 51 := ⟨by decide +kernel, rfl⟩
theorem dUmp_init_51 : uD prog_1_method_1_code 51 (.iconst 4) 1 52 := ⟨by decide +kernel, rfl⟩
theorem dUmp_init_52 : uD prog_1_method_1_code 52 (.anewarray 32) 3 55 := ⟨by decide +kernel, rfl⟩
theorem dUmp_init_55 : uD prog_1_method_1_code 55 (.putfield 39) 3 58 := ⟨by decide +kernel, rfl⟩
theorem dUmp_init_58 : uD prog_1_method_1_code 58 (.aload_n 0) 1 59 := ⟨by decide +kernel, rfl⟩
theorem dUmp_init_59 : uD prog_1_method_1_code 59 (.new 32) 3 62 := ⟨by decide +kernel, rfl⟩
theorem dUmp_init_62 : uD prog_1_method_1_code 62 (.dup) 1 63 := ⟨by decide +kernel, rfl⟩
theorem dUmp_init_63 : uD prog_1_method_1_code 63 (.invokespecial 34) 3 66 := ⟨by decide +kernel, rfl⟩
theorem dUmp_init_66 : uD prog_1_method_1_code 66 (.putfield 43) 3 69 := ⟨by decide +kernel, rfl⟩
theorem dUmp_init_69 : uD prog_1_method_1_code 69 (.aload_n 0) 1 70 := ⟨by decide +kernel, rfl⟩
theorem dUmp_init_70 : uD prog_1_method_1_code 70 (.new 46) 3 73 := ⟨by decide +kernel, rfl⟩
theorem dUmp_init_73 : uD prog_1_method_1_code 73 (.dup) 1 74 := ⟨by decide +kernel, rfl⟩
theorem dUmp_init_74 : uD prog_1_method_1_code 74 (.invokespecial 48) 3 77 := ⟨by decide +kernel, rfl⟩
theorem dUmp_init_77 : uD prog_1_method_1_code 77 (.putfield 49) 3 80 := ⟨by decide +kernel, rfl⟩
theorem dUmp_init_80 : uD prog_1_method_1_code 80 (.aload_n 0) 1 81 := ⟨by decide +kernel, rfl⟩
theorem dUmp_init_81 : uD prog_1_method_1_code 81 (.bipush 6) 2 83 := ⟨by decide +kernel, rfl⟩
theorem dUmp_init_83 : uD prog_1_method_1_code 83 (.anewarray 53) 3 86 := ⟨by decide +kernel, rfl⟩
theorem dUmp_init_86 : uD prog_1_method_1_code 86 (.putfield 55) 3 89 := ⟨by decide +kernel, rfl⟩
theorem dUmp_init_89 : uD prog_1_method_1_code 89 (.aload_n 0) 1 90 := ⟨by decide +kernel, rfl⟩
theorem dUmp_init_90 : uD prog_1_method_1_code 90 (.new 46) 3 93 := ⟨by decide +kernel, rfl⟩
theorem dUmp_init_93 : uD prog_1_method_1_code 93 (.dup) 1 94 := ⟨by decide +kernel, rfl⟩
theorem dUmp_init_94 : uD prog_1_method_1_code 94 (.invokespecial 48) 3 97 := ⟨by decide +kernel, rfl⟩
theorem dUmp_init_97 : uD prog_1_method_1_code 97 (.putfield 59) 3 100 := ⟨by decide +kernel, rfl⟩
theorem dUmp_init_100 : uD prog_1_method_1_code 100 (.aload_n 0) 1 101 := ⟨by decide +kernel, rfl⟩
theorem dUmp_init_101 : uD prog_1_method_1_code 101 (.new 53) 3 104 := ⟨by decide +kernel, rfl⟩
theorem dUmp_init_104 : uD prog_1_method_1_code 104 (.dup) 1 105 := ⟨by decide +kernel, rfl⟩
theorem dUmp_init_105 : uD prog_1_method_1_code 105 (.invokespecial 62) 3 108 := ⟨by decide +kernel, rfl⟩
theorem dUmp_init_108 : uD prog_1_method_1_code 108 (.putfield 63) 3 111 := ⟨by decide +kernel, rfl⟩
theorem dUmp_init_111 : uD prog_1_method_1_code 111 (.iconst 0) 1 112 := ⟨by decide +kernel, rfl⟩
theorem dUmp_init_112 : uD prog_1_method_1_code 112 (.istore_n 1) 1 113 := ⟨by decide +kernel, rfl⟩
theorem dUmp_init_113 : uD prog_1_method_1_code 113 (.iload_n 1) 1 114 := ⟨by decide +kernel, rfl⟩
theorem dUmp_init_114 : uD prog_1_method_1_code 114 (.aload_n 0) 1 115 := ⟨by decide +kernel, rfl⟩
theorem dUmp_init_115 : uD prog_1_method_1_code 115 (.getfield 39) 3 118 := ⟨by decide +kernel, rfl⟩
theorem dUmp_init_118 : uD prog_1_method_1_code 118 (.arraylength) 1 119 := ⟨by decide +kernel, rfl⟩
theorem dUmp_init_119 : uB prog_1_method_1_code 119 (.if_icmp .ge) 122 141 := ⟨22, by decide +kernel, rfl, by decide⟩
theorem dUmp_init_122 : uD prog_1_method_1_code 122 (.aload_n 0) 1 123 := ⟨by decide +kernel, rfl⟩
theorem dUmp_init_123 : uD prog_1_method_1_code 123 (.getfield 39) 3 126 := ⟨by decide +kernel, rfl⟩
theorem dUmp_init_126 : uD prog_1_method_1_code 126 (.iload_n 1) 1 127 := ⟨by decide +kernel, rfl⟩
theorem dUmp_init_127 : uD prog_1_method_1_code 127 (.new 32) 3 130 := ⟨by decide +kernel, rfl⟩
theorem dUmp_init_130 : uD prog_1_method_1_code 130 (.dup) 1 131 := ⟨by decide +kernel, rfl⟩
theorem dUmp_init_131 : uD prog_1_method_1_code 131 (.invokespecial 34) 3 134 := ⟨by decide +kernel, rfl⟩
theorem dUmp_init_134 : uD prog_1_method_1_code 134 (.aastore) 1 135 := ⟨by decide +kernel, rfl⟩
theorem dUmp_init_135 : uD prog_1_method_1_code 135 (.iinc 1 1) 3 138 := ⟨by decide +kernel, rfl⟩
theorem dUmp_init_138 : uB prog_1_method_1_code 138 .goto 141 113 := ⟨-25, by decide +kernel, rfl, by decide⟩
theorem dUmp_init_141 : uD prog_1_method_1_code 141 (.iconst 0) 1 142 := ⟨by decide +kernel, rfl⟩
theorem dUmp_init_142 : uD prog_1_method_1_code 142 (.istore_n 1) 1 143 := ⟨by decide +kernel, rfl⟩
theorem dUmp_init_143 : uD prog_1_method_1_code 143 (.iload_n 1) 1 144 := ⟨by decide +kernel, rfl⟩
theorem dUmp_init_144 : uD prog_1_method_1_code 144 (.aload_n 0) 1 145 := ⟨by decide +kernel, rfl⟩
theorem dUmp_init_145 : uD prog_1_method_1_code 145 (.getfield 55) 3 148 := ⟨by decide +kernel, rfl⟩
theorem dUmp_init_148 : uD prog_1_method_1_code 148 (.arraylength) 1 149 := ⟨by decide +kernel, rfl⟩
theorem dUmp_init_149 : uB prog_1_method_1_code 149 (.if_icmp .ge) 152 171 := ⟨22, by decide +kernel, rfl, by decide⟩
theorem dUmp_init_152 : uD prog_1_method_1_code 152 (.aload_n 0) 1 153 := ⟨by decide +kernel, rfl⟩
theorem dUmp_init_153 : uD prog_1_method_1_code 153 (.getfield 55) 3 156 := ⟨by decide +kernel, rfl⟩
theorem dUmp_init_156 : uD prog_1_method_1_code 156 (.iload_n 1) 1 157 := ⟨by decide +kernel, rfl⟩
theorem dUmp_init_157 : uD prog_1_method_1_code 157 (.new 53) 3 160 := ⟨by decide +kernel, rfl⟩
theorem dUmp_init_160 : uD prog_1_method_1_code 160 (.dup) 1 161 := ⟨by decide +kernel, rfl⟩
theorem dUmp_init_161 : uD prog_1_method_1_code 161 (.invokespecial 62) 3 164 := ⟨by decide +kernel, rfl⟩
theorem dUmp_init_164 : uD prog_1_method_1_code 164 (.aastore) 1 165 := ⟨by decide +kernel, rfl⟩
theorem dUmp_init_165 : uD prog_1_method_1_code 165 (.iinc 1 1) 3 168 := ⟨by decide +kernel, rfl⟩
theorem dUmp_init_168 : uB prog_1_method_1_code 168 .goto 171 143 := ⟨-25, by decide +kernel, rfl, by decide⟩
theorem dUmp_init_171 : uD prog_1_method_1_code 171 (.return_) 1 172 := ⟨by decide +kernel, rfl⟩
theorem dUmp_rule_0 : uD prog_1_method_2_code 0 (.iload_n 1) 1 1 := ⟨by decide +kernel, rfl⟩
theorem dUmp_rule_1 : uD prog_1_method_2_code 1 (.invokestatic 67) 3 4 := ⟨by decide +kernel, rfl⟩
theorem dUmp_rule_4 : uB prog_1_method_2_code 4 (.ifCond .eq) 7 14 := ⟨10, by decide +kernel, rfl, by decide⟩
theorem dUmp_rule_7 : uD prog_1_method_2_code 7 (.iload_n 2) 1 8 := ⟨by decide +kernel, rfl⟩
theorem dUmp_rule_8 : uD prog_1_method_2_code 8 (.invokestatic 67) 3 11 := ⟨by decide +kernel, rfl⟩
theorem dUmp_rule_11 : uB prog_1_method_2_code 11 (.ifCond .ne) 14 16 := ⟨5, by decide +kernel, rfl, by decide⟩
theorem dUmp_rule_14 : uD prog_1_method_2_code 14 (.iconst (-1)) 1 15 := ⟨by decide +kernel, rfl⟩
theorem dUmp_rule_15 : uD prog_1_method_2_code 15 (.ireturn) 1 16 := ⟨by decide +kernel, rfl⟩
theorem dUmp_rule_16 : uD prog_1_method_2_code 16 (.aload_n 0) 1 17 := ⟨by decide +kernel, rfl⟩
theorem dUmp_rule_17 : uD prog_1_method_2_code 17 (.getfield 35) 3 20 := ⟨by decide +kernel, rfl⟩
theorem dUmp_rule_20 : uD prog_1_method_2_code 20 (.iload_n 1) 1 21 := ⟨by decide +kernel, rfl⟩
theorem dUmp_rule_21 : uD prog_1_method_2_code 21 (.iload_n 2) 1 22 := ⟨by decide +kernel, rfl⟩
theorem dUmp_rule_22 : uD prog_1_method_2_code 22 (.invokevirtual 71) 3 25 := ⟨by decide +kernel, rfl⟩
theorem dUmp_rule_25 : uD prog_1_method_2_code 25 (.iload_n 3) 1 26 := ⟨by decide +kernel, rfl⟩
theorem dUmp_rule_26 : uB prog_1_method_2_code 26 (.if_icmp .ne) 29 32 := ⟨6, by decide +kernel, rfl, by decide⟩
theorem dUmp_rule_29 : uD prog_1_method_2_code 29 (.bipush (-5)) 2 31 := ⟨by decide +kernel, rfl⟩
theorem dUmp_rule_31 : uD prog_1_method_2_code 31 (.ireturn) 1 32 := ⟨by decide +kernel, rfl⟩
theorem dUmp_rule_32 : uD prog_1_method_2_code 32 (.aload_n 0) 1 33 := ⟨by decide +kernel, rfl⟩
theorem dUmp_rule_33 : uD prog_1_method_2_code 33 (.invokevirtual 75) 3 36 := ⟨by decide +kernel, rfl⟩
theorem dUmp_rule_36 : uD prog_1_method_2_code 36 (.aload_n 0) 1 37 := ⟨by decide +kernel, rfl⟩
theorem dUmp_rule_37 : uD prog_1_method_2_code 37 (.getfield 35) 3 40 := ⟨by decide +kernel, rfl⟩
theorem dUmp_rule_40 : uD prog_1_method_2_code 40 (.iload_n 1) 1 41 := ⟨by decide +kernel, rfl⟩
theorem dUmp_rule_41 : uD prog_1_method_2_code 41 (.iload_n 2) 1 42 := ⟨by decide +kernel, rfl⟩
theorem dUmp_rule_42 : uD prog_1_method_2_code 42 (.iload_n 3) 1 43 := ⟨by decide +kernel, rfl⟩
theorem dUmp_rule_43 : uD prog_1_method_2_code 43 (.invokevirtual 78) 3 46 := ⟨by decide +kernel, rfl⟩
theorem dUmp_rule_46 : uD prog_1_method_2_code 46 (.aload_n 0) 1 47 := ⟨by decide +kernel, rfl⟩
theorem dUmp_rule_47 : uD prog_1_method_2_code 47 (.getfield 35) 3 50 := ⟨by decide +kernel, rfl⟩
theorem dUmp_rule_50 : uD prog_1_method_2_code 50 (.invokevirtual 82) 3 53 := ⟨by decide +kernel, rfl⟩
theorem dUmp_rule_53 : uD prog_1_method_2_code 53 (.ireturn) 1 54 := ⟨by decide +kernel, rfl⟩
theorem dUmp_pack_0 : uD prog_1_method_3_code 0 (.aload_n 0) 1 1 := ⟨by decide +kernel, rfl⟩
theorem dUmp_pack_1 : uD prog_1_method_3_code 1 (.getfield 21) 3 4 := ⟨by decide +kernel, rfl⟩
theorem dUmp_pack_4 : uD prog_1_method_3_code 4 (.aload_n 0) 1 5 := ⟨by decide +kernel, rfl⟩
theorem dUmp_pack_5 : uD prog_1_method_3_code 5 (.getfield 14) 3 8 := ⟨by decide +kernel, rfl⟩
theorem dUmp_pack_8 : uD prog_1_method_3_code 8 (.aload_n 0) 1 9 := ⟨by decide +kernel, rfl⟩
theorem dUmp_pack_9 : uD prog_1_method_3_code 9 (.getfield 35) 3 12 := ⟨by decide +kernel, rfl⟩
theorem dUmp_pack_12 : uD prog_1_method_3_code 12 (.invokevirtual 86) 3 15 := ⟨by decide +kernel, rfl⟩
theorem dUmp_pack_15 : uD prog_1_method_3_code 15 (.aload_n 0) 1 16 := ⟨by decide +kernel, rfl⟩
theorem dUmp_pack_16 : uD prog_1_method_3_code 16 (.getfield 21) 3 19 := ⟨by decide +kernel, rfl⟩
theorem dUmp_pack_19 : uD prog_1_method_3_code 19 (.invokevirtual 90) 3 22 := ⟨by decide +kernel, rfl⟩
theorem dUmp_pack_22 : uB prog_1_method_3_code 22 (.ifCond .eq) 25 36 := ⟨14, by decide +kernel, rfl, by decide⟩
theorem dUmp_pack_25 : uD prog_1_method_3_code 25 (.bipush (-100)) 2 27 := ⟨by decide +kernel, rfl⟩
theorem dUmp_pack_27 : uD prog_1_method_3_code 27 (.aload_n 0) 1 28 := ⟨by decide +kernel, rfl⟩
theorem dUmp_pack_28 : uD prog_1_method_3_code 28 (.getfield 21) 3 31 := ⟨by decide +kernel, rfl⟩
theorem dUmp_pack_31 : uD prog_1_method_3_code 31 (.getfield 94) 3 34 := ⟨by decide +kernel, rfl⟩
theorem dUmp_pack_34 : uD prog_1_method_3_code 34 (.isub) 1 35 := ⟨by decide +kernel, rfl⟩
theorem dUmp_pack_35 : uD prog_1_method_3_code 35 (.ireturn) 1 36 := ⟨by decide +kernel, rfl⟩
theorem dUmp_pack_36 : uD prog_1_method_3_code 36 (.aload_n 0) 1 37 := ⟨by decide +kernel, rfl⟩
theorem dUmp_pack_37 : uD prog_1_method_3_code 37 (.getfield 35) 3 40 := ⟨by decide +kernel, rfl⟩
theorem dUmp_pack_40 : uD prog_1_method_3_code 40 (.getfield 98) 3 43 := ⟨by decide +kernel, rfl⟩
theorem dUmp_pack_43 : uD prog_1_method_3_code 43 (.bipush 6) 2 45 := ⟨by decide +kernel, rfl⟩
theorem dUmp_pack_45 : uB prog_1_method_3_code 45 (.if_icmp .lt) 48 51 := ⟨6, by decide +kernel, rfl, by decide⟩
theorem dUmp_pack_48 : uD prog_1_method_3_code 48 (.bipush (-3)) 2 50 := ⟨by decide +kernel, rfl⟩
theorem dUmp_pack_50 : uD prog_1_method_3_code 50 (.ireturn) 1 51 := ⟨by decide +kernel, rfl⟩
theorem dUmp_pack_51 : uD prog_1_method_3_code 51 (.aload_n 0) 1 52 := ⟨by decide +kernel, rfl⟩
theorem dUmp_pack_52 : uD prog_1_method_3_code 52 (.invokevirtual 75) 3 55 := ⟨by decide +kernel, rfl⟩
theorem dUmp_pack_55 : uD prog_1_method_3_code 55 (.aload_n 0) 1 56 := ⟨by decide +kernel, rfl⟩
theorem dUmp_pack_56 : uD prog_1_method_3_code 56 (.aload_n 0) 1 57 := ⟨by decide +kernel, rfl⟩
theorem dUmp_pack_57 : uD prog_1_method_3_code 57 (.getfield 35) 3 60 := ⟨by decide +kernel, rfl⟩
theorem dUmp_pack_60 : uD prog_1_method_3_code 60 (.getfield 98) 3 63 := ⟨by decide +kernel, rfl⟩
theorem dUmp_pack_63 : uD prog_1_method_3_code 63 (.invokevirtual 101) 3 66 := ⟨by decide +kernel, rfl⟩
theorem dUmp_pack_66 : uD prog_1_method_3_code 66 (.astore_n 1) 1 67 := ⟨by decide +kernel, rfl⟩
theorem dUmp_pack_67 : uD prog_1_method_3_code 67 (.aload_n 0) 1 68 := ⟨by decide +kernel, rfl⟩
theorem dUmp_pack_68 : uD prog_1_method_3_code 68 (.getfield 35) 3 71 := ⟨by decide +kernel, rfl⟩
theorem dUmp_pack_71 : uD prog_1_method_3_code 71 (.aload_n 0) 1 72 := ⟨by decide +kernel, rfl⟩
theorem dUmp_pack_72 : uD prog_1_method_3_code 72 (.getfield 21) 3 75 := ⟨by decide +kernel, rfl⟩
theorem dUmp_pack_75 : uD prog_1_method_3_code 75 (.getfield 105) 3 78 := ⟨by decide +kernel, rfl⟩
theorem dUmp_pack_78 : uD prog_1_method_3_code 78 (.invokevirtual 109) 3 81 := ⟨by decide +kernel, rfl⟩
theorem dUmp_pack_81 : uD prog_1_method_3_code 81 (.aload_n 0) 1 82 := ⟨by decide +kernel, rfl⟩
theorem dUmp_pack_82 : uD prog_1_method_3_code 82 (.getfield 49) 3 85 := ⟨by decide +kernel, rfl⟩
theorem dUmp_pack_85 : uD prog_1_method_3_code 85 (.aload_n 0) 1 86 := ⟨by decide +kernel, rfl⟩
theorem dUmp_pack_86 : uD prog_1_method_3_code 86 (.getfield 21) 3 89 := ⟨by decide +kernel, rfl⟩
theorem dUmp_pack_89 : uD prog_1_method_3_code 89 (.getfield 105) 3 92 := ⟨by decide +kernel, rfl⟩
theorem dUmp_pack_92 : uD prog_1_method_3_code 92 (.aload_n 1) 1 93 := ⟨by decide +kernel, rfl⟩
theorem dUmp_pack_93 : uD prog_1_method_3_code 93 (.invokevirtual 113) 3 96 := ⟨by decide +kernel, rfl⟩
theorem dUmp_pack_96 : uD prog_1_method_3_code 96 (.aload_n 1) 1 97 := ⟨by decide +kernel, rfl⟩
theorem dUmp_pack_97 : uD prog_1_method_3_code 97 (.invokevirtual 117) 3 100 := ⟨by decide +kernel, rfl⟩
theorem dUmp_pack_100 : uD prog_1_method_3_code 100 (.ireturn) 1 101 := ⟨by decide +kernel, rfl⟩
theorem dUmp_unpackLast_0 : uD prog_1_method_4_code 0 (.aload_n 0) 1 1 := ⟨by decide +kernel, rfl⟩
theorem dUmp_unpackLast_1 : uD prog_1_method_4_code 1 (.getfield 35) 3 4 := ⟨by decide +kernel, rfl⟩
theorem dUmp_unpackLast_4 : uD prog_1_method_4_code 4 (.getfield 98) 3 7 := ⟨by decide +kernel, rfl⟩
theorem dUmp_unpackLast_7 : uB prog_1_method_4_code 7 (.ifCond .gt) 10 13 := ⟨6, by decide +kernel, rfl, by decide⟩
theorem dUmp_unpackLast_10 : uD prog_1_method_4_code 10 (.bipush (-4)) 2 12 := ⟨by decide +kernel, rfl⟩
theorem dUmp_unpackLast_12 : uD prog_1_method_4_code 12 (.ireturn) 1 13 := ⟨by decide +kernel, rfl⟩
theorem dUmp_unpackLast_13 : uD prog_1_method_4_code 13 (.aload_n 0) 1 14 := ⟨by decide +kernel, rfl⟩
theorem dUmp_unpackLast_14 : uD prog_1_method_4_code 14 (.invokevirtual 75) 3 17 := ⟨by decide +kernel, rfl⟩
theorem dUmp_unpackLast_17 : uD prog_1_method_4_code 17 (.aload_n 0) 1 18 := ⟨by decide +kernel, rfl⟩
theorem dUmp_unpackLast_18 : uD prog_1_method_4_code 18 (.getfield 35) 3 21 := ⟨by decide +kernel, rfl⟩
theorem dUmp_unpackLast_21 : uD prog_1_method_4_code 21 (.dup) 1 22 := ⟨by decide +kernel, rfl⟩
theorem dUmp_unpackLast_22 : uD prog_1_method_4_code 22 (.getfield 98) 3 25 := ⟨by decide +kernel, rfl⟩
theorem dUmp_unpackLast_25 : uD prog_1_method_4_code 25 (.iconst 1) 1 26 := ⟨by decide +kernel, rfl⟩
theorem dUmp_unpackLast_26 : uD prog_1_method_4_code 26 (.isub) 1 27 := ⟨by decide +kernel, rfl⟩
theorem dUmp_unpackLast_27 : uD prog_1_method_4_code 27 (.putfield 98) 3 30 := ⟨by decide +kernel, rfl⟩
theorem dUmp_unpackLast_30 : uD prog_1_method_4_code 30 (.aload_n 0) 1 31 := ⟨by decide +kernel, rfl⟩
theorem dUmp_unpackLast_31 : uD prog_1_method_4_code 31 (.invokevirtual 120) 3 34 := ⟨by decide +kernel, rfl⟩
theorem dUmp_unpackLast_34 : uD prog_1_method_4_code 34 (.aload_n 0) 1 35 := ⟨by decide +kernel, rfl⟩
theorem dUmp_unpackLast_35 : uD prog_1_method_4_code 35 (.getfield 35) 3 38 := ⟨by decide +kernel, rfl⟩
theorem dUmp_unpackLast_38 : uD prog_1_method_4_code 38 (.getfield 98) 3 41 := ⟨by decide +kernel, rfl⟩
theorem dUmp_unpackLast_41 : uD prog_1_method_4_code 41 (.ireturn) 1 42 := ⟨by decide +kernel, rfl⟩
theorem dUmp_first_0 : uD prog_1_method_5_code 0 (.aload_n 0) 1 1 := ⟨by decide +kernel, rfl⟩
theorem dUmp_first_1 : uD prog_1_method_5_code 1 (.getfield 35) 3 4 := ⟨by decide +kernel, rfl⟩
theorem dUmp_first_4 : uD prog_1_method_5_code 4 (.iload_n 1) 1 5 := ⟨by decide +kernel, rfl⟩
theorem dUmp_first_5 : uD prog_1_method_5_code 5 (.invokevirtual 123) 3 8 := ⟨by decide +kernel, rfl⟩
theorem dUmp_first_8 : uB prog_1_method_5_code 8 (.ifCond .ne) 11 13 := ⟨5, by decide +kernel, rfl, by decide⟩
theorem dUmp_first_11 : uD prog_1_method_5_code 11 (.iconst (-1)) 1 12 := ⟨by decide +kernel, rfl⟩
theorem dUmp_first_12 : uD prog_1_method_5_code 12 (.ireturn) 1 13 := ⟨by decide +kernel, rfl⟩
theorem dUmp_first_13 : uD prog_1_method_5_code 13 (.iload_n 1) 1 14 := ⟨by decide +kernel, rfl⟩
theorem dUmp_first_14 : uB prog_1_method_5_code 14 (.ifCond .ne) 17 20 := ⟨6, by decide +kernel, rfl, by decide⟩
theorem dUmp_first_17 : uD prog_1_method_5_code 17 (.bipush (-5)) 2 19 := ⟨by decide +kernel, rfl⟩
theorem dUmp_first_19 : uD prog_1_method_5_code 19 (.ireturn) 1 20 := ⟨by decide +kernel, rfl⟩
theorem dUmp_first_20 : uD prog_1_method_5_code 20 (.aload_n 0) 1 21 := ⟨by decide +kernel, rfl⟩
theorem dUmp_first_21 : uD prog_1_method_5_code 21 (.invokevirtual 126) 3 24 := ⟨by decide +kernel, rfl⟩
theorem dUmp_first_24 : uD prog_1_method_5_code 24 (.istore_n 2) 1 25 := ⟨by decide +kernel, rfl⟩
theorem dUmp_first_25 : uD prog_1_method_5_code 25 (.aload_n 0) 1 26 := ⟨by decide +kernel, rfl⟩
theorem dUmp_first_26 : uD prog_1_method_5_code 26 (.invokevirtual 75) 3 29 := ⟨by decide +kernel, rfl⟩
theorem dUmp_first_29 : uD prog_1_method_5_code 29 (.aload_n 0) 1 30 := ⟨by decide +kernel, rfl⟩
theorem dUmp_first_30 : uD prog_1_method_5_code 30 (.getfield 35) 3 33 := ⟨by decide +kernel, rfl⟩
theorem dUmp_first_33 : uD prog_1_method_5_code 33 (.iload_n 1) 1 34 := ⟨by decide +kernel, rfl⟩
theorem dUmp_first_34 : uD prog_1_method_5_code 34 (.invokevirtual 129) 3 37 := ⟨by decide +kernel, rfl⟩
theorem dUmp_first_37 : uD prog_1_method_5_code 37 (.aload_n 0) 1 38 := ⟨by decide +kernel, rfl⟩
theorem dUmp_first_38 : uD prog_1_method_5_code 38 (.invokevirtual 120) 3 41 := ⟨by decide +kernel, rfl⟩
theorem dUmp_first_41 : uD prog_1_method_5_code 41 (.iload_n 2) 1 42 := ⟨by decide +kernel, rfl⟩
theorem dUmp_first_42 : uD prog_1_method_5_code 42 (.aload_n 0) 1 43 := ⟨by decide +kernel, rfl⟩
theorem dUmp_first_43 : uD prog_1_method_5_code 43 (.invokevirtual 126) 3 46 := ⟨by decide +kernel, rfl⟩
theorem dUmp_first_46 : uD prog_1_method_5_code 46 (.isub) 1 47 := ⟨by decide +kernel, rfl⟩
theorem dUmp_first_47 : uD prog_1_method_5_code 47 (.sipush 10000) 3 50 := ⟨by decide +kernel, rfl⟩
theorem dUmp_first_50 : uD prog_1_method_5_code 50 (.iadd) 1 51 := ⟨by decide +kernel, rfl⟩
theorem dUmp_first_51 : uD prog_1_method_5_code 51 (.ireturn) 1 52 := ⟨by decide +kernel, rfl⟩
theorem dUmp_type_0 : uD prog_1_method_6_code 0 (.aload_n 0) 1 1 := ⟨by decide +kernel, rfl⟩
theorem dUmp_type_1 : uD prog_1_method_6_code 1 (.getfield 14) 3 4 := ⟨by decide +kernel, rfl⟩
theorem dUmp_type_4 : uD prog_1_method_6_code 4 (.invokevirtual 132) 3 7 := ⟨by decide +kernel, rfl⟩
theorem dUmp_type_7 : uD prog_1_method_6_code 7 (.bipush 100) 2 9 := ⟨by decide +kernel, rfl⟩
theorem dUmp_type_9 : uB prog_1_method_6_code 9 (.if_icmp .lt) 12 15 := ⟨6, by decide +kernel, rfl, by decide⟩
theorem dUmp_type_12 : uD prog_1_method_6_code 12 (.bipush (-3)) 2 14 := ⟨by decide +kernel, rfl⟩
theorem dUmp_type_14 : uD prog_1_method_6_code 14 (.ireturn) 1 15 := ⟨by decide +kernel, rfl⟩
theorem dUmp_type_15 : uD prog_1_method_6_code 15 (.aload_n 0) 1 16 := ⟨by decide +kernel, rfl⟩
theorem dUmp_type_16 : uD prog_1_method_6_code 16 (.getfield 14) 3 19 := ⟨by decide +kernel, rfl⟩
theorem dUmp_type_19 : uD prog_1_method_6_code 19 (.iload_n 1) 1 20 := ⟨by decide +kernel, rfl⟩
theorem dUmp_type_20 : uD prog_1_method_6_code 20 (.invokevirtual 135) 3 23 := ⟨by decide +kernel, rfl⟩
theorem dUmp_type_23 : uD prog_1_method_6_code 23 (.aload_n 0) 1 24 := ⟨by decide +kernel, rfl⟩
theorem dUmp_type_24 : uD prog_1_method_6_code 24 (.getfield 14) 3 27 := ⟨by decide +kernel, rfl⟩
theorem dUmp_type_27 : uD prog_1_method_6_code 27 (.invokevirtual 132) 3 30 := ⟨by decide +kernel, rfl⟩
theorem dUmp_type_30 : uD prog_1_method_6_code 30 (.ireturn) 1 31 := ⟨by decide +kernel, rfl⟩
theorem dUmp_clearText_0 : uD prog_1_method_7_code 0 (.aload_n 0) 1 1 := ⟨by decide +kernel, rfl⟩
theorem dUmp_clearText_1 : uD prog_1_method_7_code 1 (.getfield 14) 3 4 := ⟨by decide +kernel, rfl⟩
theorem dUmp_clearText_4 : uD prog_1_method_7_code 4 (.invokevirtual 132) 3 7 := ⟨by decide +kernel, rfl⟩
theorem dUmp_clearText_7 : uD prog_1_method_7_code 7 (.istore_n 1) 1 8 := ⟨by decide +kernel, rfl⟩
theorem dUmp_clearText_8 : uD prog_1_method_7_code 8 (.aload_n 0) 1 9 := ⟨by decide +kernel, rfl⟩
theorem dUmp_clearText_9 : uD prog_1_method_7_code 9 (.getfield 14) 3 12 := ⟨by decide +kernel, rfl⟩
theorem dUmp_clearText_12 : uD prog_1_method_7_code 12 (.invokevirtual 138) 3 15 := ⟨by decide +kernel, rfl⟩
theorem dUmp_clearText_15 : uD prog_1_method_7_code 15 (.iload_n 1) 1 16 := ⟨by decide +kernel, rfl⟩
theorem dUmp_clearText_16 : uD prog_1_method_7_code 16 (.ireturn) 1 17 := ⟨by decide +kernel, rfl⟩
theorem dUmp_fault_0 : uD prog_1_method_8_code 0 (.iload_n 1) 1 1 := ⟨by decide +kernel, rfl⟩
theorem dUmp_fault_1 : uB prog_1_method_8_code 1 (.ifCond .lt) 4 9 := ⟨8, by decide +kernel, rfl, by decide⟩
theorem dUmp_fault_4 : uD prog_1_method_8_code 4 (.iload_n 1) 1 5 := ⟨by decide +kernel, rfl⟩
theorem dUmp_fault_5 : uD prog_1_method_8_code 5 (.iconst 2) 1 6 := ⟨by decide +kernel, rfl⟩
theorem dUmp_fault_6 : uB prog_1_method_8_code 6 (.if_icmp .le) 9 12 := ⟨6, by decide +kernel, rfl, by decide⟩
theorem dUmp_fault_9 : uD prog_1_method_8_code 9 (.bipush (-2)) 2 11 := ⟨by decide +kernel, rfl⟩
theorem dUmp_fault_11 : uD prog_1_method_8_code 11 (.ireturn) 1 12 := ⟨by decide +kernel, rfl⟩
theorem dUmp_fault_12 : uD prog_1_method_8_code 12 (.aload_n 0) 1 13 := ⟨by decide +kernel, rfl⟩
theorem dUmp_fault_13 : uD prog_1_method_8_code 13 (.getfield 21) 3 16 := ⟨by decide +kernel, rfl⟩
theorem dUmp_fault_16 : uD prog_1_method_8_code 16 (.aload_n 0) 1 17 := ⟨by decide +kernel, rfl⟩
theorem dUmp_fault_17 : uD prog_1_method_8_code 17 (.getfield 14) 3 20 := ⟨by decide +kernel, rfl⟩
theorem dUmp_fault_20 : uD prog_1_method_8_code 20 (.aload_n 0) 1 21 := ⟨by decide +kernel, rfl⟩
theorem dUmp_fault_21 : uD prog_1_method_8_code 21 (.getfield 35) 3 24 := ⟨by decide +kernel, rfl⟩
theorem dUmp_fault_24 : uD prog_1_method_8_code 24 (.invokevirtual 86) 3 27 := ⟨by decide +kernel, rfl⟩
theorem dUmp_fault_27 : uD prog_1_method_8_code 27 (.aload_n 0) 1 28 := ⟨by decide +kernel, rfl⟩
theorem dUmp_fault_28 : uD prog_1_method_8_code 28 (.getfield 21) 3 31 := ⟨by decide +kernel, rfl⟩
theorem dUmp_fault_31 : uD prog_1_method_8_code 31 (.invokevirtual 90) 3 34 := ⟨by decide +kernel, rfl⟩
theorem dUmp_fault_34 : uB prog_1_method_8_code 34 (.ifCond .ne) 37 40 := ⟨6, by decide +kernel, rfl, by decide⟩
theorem dUmp_fault_37 : uD prog_1_method_8_code 37 (.bipush (-5)) 2 39 := ⟨by decide +kernel, rfl⟩
theorem dUmp_fault_39 : uD prog_1_method_8_code 39 (.ireturn) 1 40 := ⟨by decide +kernel, rfl⟩
theorem dUmp_fault_40 : uD prog_1_method_8_code 40 (.iload_n 1) 1 41 := ⟨by decide +kernel, rfl⟩
theorem dUmp_fault_41 : uB prog_1_method_8_code 41 (.ifCond .ne) 44 52 := ⟨11, by decide +kernel, rfl, by decide⟩
theorem dUmp_fault_44 : uD prog_1_method_8_code 44 (.aload_n 0) 1 45 := ⟨by decide +kernel, rfl⟩
theorem dUmp_fault_45 : uD prog_1_method_8_code 45 (.getfield 21) 3 48 := ⟨by decide +kernel, rfl⟩
theorem dUmp_fault_48 : uD prog_1_method_8_code 48 (.getfield 94) 3 51 := ⟨by decide +kernel, rfl⟩
theorem dUmp_fault_51 : uD prog_1_method_8_code 51 (.ireturn) 1 52 := ⟨by decide +kernel, rfl⟩
theorem dUmp_fault_52 : uD prog_1_method_8_code 52 (.iload_n 1) 1 53 := ⟨by decide +kernel, rfl⟩
theorem dUmp_fault_53 : uD prog_1_method_8_code 53 (.iconst 1) 1 54 := ⟨by decide +kernel, rfl⟩
theorem dUmp_fault_54 : uB prog_1_method_8_code 54 (.if_icmp .ne) 57 67 := ⟨13, by decide +kernel, rfl, by decide⟩
theorem dUmp_fault_57 : uD prog_1_method_8_code 57 (.aload_n 0) 1 58 := ⟨by decide +kernel, rfl⟩
theorem dUmp_fault_58 : uD prog_1_method_8_code 58 (.getfield 21) 3 61 := ⟨by decide +kernel, rfl⟩
theorem dUmp_fault_61 : uD prog_1_method_8_code 61 (.getfield 141) 3 64 := ⟨by decide +kernel, rfl⟩
theorem dUmp_fault_64 : uB prog_1_method_8_code 64 .goto 67 74 := ⟨10, by decide +kernel, rfl, by decide⟩
theorem dUmp_fault_67 : uD prog_1_method_8_code 67 (.aload_n 0) 1 68 := ⟨by decide +kernel, rfl⟩
theorem dUmp_fault_68 : uD prog_1_method_8_code 68 (.getfield 21) 3 71 := ⟨by decide +kernel, rfl⟩
theorem dUmp_fault_71 : uD prog_1_method_8_code 71 (.getfield 144) 3 74 := ⟨by decide +kernel, rfl⟩
theorem dUmp_fault_74 : uD prog_1_method_8_code 74 (.ireturn) 1 75 := ⟨by decide +kernel, rfl⟩
theorem dUmp_undo_0 : uD prog_1_method_9_code 0 (.aload_n 0) 1 1 := ⟨by decide +kernel, rfl⟩
theorem dUmp_undo_1 : uD prog_1_method_9_code 1 (.getfield 147) 3 4 := ⟨by decide +kernel, rfl⟩
theorem dUmp_undo_4 : uB prog_1_method_9_code 4 (.ifCond .le) 7 19 := ⟨15, by decide +kernel, rfl, by decide⟩
theorem dUmp_undo_7 : uD prog_1_method_9_code 7 (.aload_n 0) 1 8 := ⟨by decide +kernel, rfl⟩
theorem dUmp_undo_8 : uD prog_1_method_9_code 8 (.getfield 147) 3 11 := ⟨by decide +kernel, rfl⟩
theorem dUmp_undo_11 : uD prog_1_method_9_code 11 (.aload_n 0) 1 12 := ⟨by decide +kernel, rfl⟩
theorem dUmp_undo_12 : uD prog_1_method_9_code 12 (.getfield 39) 3 15 := ⟨by decide +kernel, rfl⟩
theorem dUmp_undo_15 : uD prog_1_method_9_code 15 (.arraylength) 1 16 := ⟨by decide +kernel, rfl⟩
theorem dUmp_undo_16 : uB prog_1_method_9_code 16 (.if_icmp .le) 19 22 := ⟨6, by decide +kernel, rfl, by decide⟩
theorem dUmp_undo_19 : uD prog_1_method_9_code 19 (.bipush (-5)) 2 21 := ⟨by decide +kernel, rfl⟩
theorem dUmp_undo_21 : uD prog_1_method_9_code 21 (.ireturn) 1 22 := ⟨by decide +kernel, rfl⟩
theorem dUmp_undo_22 : uD prog_1_method_9_code 22 (.aload_n 0) 1 23 := ⟨by decide +kernel, rfl⟩
theorem dUmp_undo_23 : uD prog_1_method_9_code 23 (.dup) 1 24 := ⟨by decide +kernel, rfl⟩
theorem dUmp_undo_24 : uD prog_1_method_9_code 24 (.getfield 147) 3 27 := ⟨by decide +kernel, rfl⟩
theorem dUmp_undo_27 : uD prog_1_method_9_code 27 (.iconst 1) 1 28 := ⟨by decide +kernel, rfl⟩
theorem dUmp_undo_28 : uD prog_1_method_9_code 28 (.isub) 1 29 := ⟨by decide +kernel, rfl⟩
theorem dUmp_undo_29 : uD prog_1_method_9_code 29 (.putfield 147) 3 32 := ⟨by decide +kernel, rfl⟩
theorem dUmp_undo_32 : uD prog_1_method_9_code 32 (.aload_n 0) 1 33 := ⟨by decide +kernel, rfl⟩
theorem dUmp_undo_33 : uD prog_1_method_9_code 33 (.getfield 35) 3 36 := ⟨by decide +kernel, rfl⟩
theorem dUmp_undo_36 : uD prog_1_method_9_code 36 (.aload_n 0) 1 37 := ⟨by decide +kernel, rfl⟩
theorem dUmp_undo_37 : uD prog_1_method_9_code 37 (.getfield 39) 3 40 := ⟨by decide +kernel, rfl⟩
theorem dUmp_undo_40 : uD prog_1_method_9_code 40 (.aload_n 0) 1 41 := ⟨by decide +kernel, rfl⟩
theorem dUmp_undo_41 : uD prog_1_method_9_code 41 (.getfield 147) 3 44 := ⟨by decide +kernel, rfl⟩
theorem dUmp_undo_44 : uD prog_1_method_9_code 44 (.aaload) 1 45 := ⟨by decide +kernel, rfl⟩
theorem dUmp_undo_45 : uD prog_1_method_9_code 45 (.invokevirtual 150) 3 48 := ⟨by decide +kernel, rfl⟩
theorem dUmp_undo_48 : uD prog_1_method_9_code 48 (.aload_n 0) 1 49 := ⟨by decide +kernel, rfl⟩
theorem dUmp_undo_49 : uD prog_1_method_9_code 49 (.invokevirtual 120) 3 52 := ⟨by decide +kernel, rfl⟩
theorem dUmp_undo_52 : uD prog_1_method_9_code 52 (.aload_n 0) 1 53 := ⟨by decide +kernel, rfl⟩
theorem dUmp_undo_53 : uD prog_1_method_9_code 53 (.getfield 147) 3 56 := ⟨by decide +kernel, rfl⟩
theorem dUmp_undo_56 : uD prog_1_method_9_code 56 (.ireturn) 1 57 := ⟨by decide +kernel, rfl⟩
theorem dUmp_keep_0 : uD prog_1_method_10_code 0 (.aload_n 0) 1 1 := ⟨by decide +kernel, rfl⟩
theorem dUmp_keep_1 : uD prog_1_method_10_code 1 (.getfield 43) 3 4 := ⟨by decide +kernel, rfl⟩
theorem dUmp_keep_4 : uD prog_1_method_10_code 4 (.aload_n 0) 1 5 := ⟨by decide +kernel, rfl⟩
theorem dUmp_keep_5 : uD prog_1_method_10_code 5 (.getfield 35) 3 8 := ⟨by decide +kernel, rfl⟩
theorem dUmp_keep_8 : uD prog_1_method_10_code 8 (.invokevirtual 150) 3 11 := ⟨by decide +kernel, rfl⟩
theorem dUmp_keep_11 : uD prog_1_method_10_code 11 (.aload_n 0) 1 12 := ⟨by decide +kernel, rfl⟩
theorem dUmp_keep_12 : uD prog_1_method_10_code 12 (.iconst 1) 1 13 := ⟨by decide +kernel, rfl⟩
theorem dUmp_keep_13 : uD prog_1_method_10_code 13 (.putfield 154) 3 16 := ⟨by decide +kernel, rfl⟩
theorem dUmp_keep_16 : uD prog_1_method_10_code 16 (.aload_n 0) 1 17 := ⟨by decide +kernel, rfl⟩
theorem dUmp_keep_17 : uD prog_1_method_10_code 17 (.getfield 35) 3 20 := ⟨by decide +kernel, rfl⟩
theorem dUmp_keep_20 : uD prog_1_method_10_code 20 (.getfield 98) 3 23 := ⟨by decide +kernel, rfl⟩
theorem dUmp_keep_23 : uD prog_1_method_10_code 23 (.ireturn) 1 24 := ⟨by decide +kernel, rfl⟩
theorem dUmp_restore_0 : uD prog_1_method_11_code 0 (.aload_n 0) 1 1 := ⟨by decide +kernel, rfl⟩
theorem dUmp_restore_1 : uD prog_1_method_11_code 1 (.getfield 154) 3 4 := ⟨by decide +kernel, rfl⟩
theorem dUmp_restore_4 : uB prog_1_method_11_code 4 (.ifCond .ne) 7 10 := ⟨6, by decide +kernel, rfl, by decide⟩
theorem dUmp_restore_7 : uD prog_1_method_11_code 7 (.bipush (-5)) 2 9 := ⟨by decide +kernel, rfl⟩
theorem dUmp_restore_9 : uD prog_1_method_11_code 9 (.ireturn) 1 10 := ⟨by decide +kernel, rfl⟩
theorem dUmp_restore_10 : uD prog_1_method_11_code 10 (.aload_n 0) 1 11 := ⟨by decide +kernel, rfl⟩
theorem dUmp_restore_11 : uD prog_1_method_11_code 11 (.invokevirtual 75) 3 14 := ⟨by decide +kernel, rfl⟩
theorem dUmp_restore_14 : uD prog_1_method_11_code 14 (.aload_n 0) 1 15 := ⟨by decide +kernel, rfl⟩
theorem dUmp_restore_15 : uD prog_1_method_11_code 15 (.getfield 35) 3 18 := ⟨by decide +kernel, rfl⟩
theorem dUmp_restore_18 : uD prog_1_method_11_code 18 (.aload_n 0) 1 19 := ⟨by decide +kernel, rfl⟩
theorem dUmp_restore_19 : uD prog_1_method_11_code 19 (.getfield 43) 3 22 := ⟨by decide +kernel, rfl⟩
theorem dUmp_restore_22 : uD prog_1_method_11_code 22 (.invokevirtual 150) 3 25 := ⟨by decide +kernel, rfl⟩
theorem dUmp_restore_25 : uD prog_1_method_11_code 25 (.aload_n 0) 1 26 := ⟨by decide +kernel, rfl⟩
theorem dUmp_restore_26 : uD prog_1_method_11_code 26 (.invokevirtual 120) 3 29 := ⟨by decide +kernel, rfl⟩
theorem dUmp_restore_29 : uD prog_1_method_11_code 29 (.aload_n 0) 1 30 := ⟨by decide +kernel, rfl⟩
theorem dUmp_restore_30 : uD prog_1_method_11_code 30 (.getfield 35) 3 33 := ⟨by decide +kernel, rfl⟩
theorem dUmp_restore_33 : uD prog_1_method_11_code 33 (.getfield 98) 3 36 := ⟨by decide +kernel, rfl⟩
theorem dUmp_restore_36 : uD prog_1_method_11_code 36 (.ireturn) 1 37 := ⟨by decide +kernel, rfl⟩
theorem dUmp_charAt_0 : uD prog_1_method_12_code 0 (.aload_n 0) 1 1 := ⟨by decide +kernel, rfl⟩
theorem dUmp_charAt_1 : uD prog_1_method_12_code 1 (.getfield 35) 3 4 := ⟨by decide +kernel, rfl⟩
theorem dUmp_charAt_4 : uD prog_1_method_12_code 4 (.iload_n 1) 1 5 := ⟨by decide +kernel, rfl⟩
theorem dUmp_charAt_5 : uD prog_1_method_12_code 5 (.invokevirtual 123) 3 8 := ⟨by decide +kernel, rfl⟩
theorem dUmp_charAt_8 : uB prog_1_method_12_code 8 (.ifCond .ne) 11 13 := ⟨5, by decide +kernel, rfl, by decide⟩
theorem dUmp_charAt_11 : uD prog_1_method_12_code 11 (.iconst (-1)) 1 12 := ⟨by decide +kernel, rfl⟩
theorem dUmp_charAt_12 : uD prog_1_method_12_code 12 (.ireturn) 1 13 := ⟨by decide +kernel, rfl⟩
theorem dUmp_charAt_13 : uD prog_1_method_12_code 13 (.iload_n 2) 1 14 := ⟨by decide +kernel, rfl⟩
theorem dUmp_charAt_14 : uB prog_1_method_12_code 14 (.ifCond .ge) 17 20 := ⟨6, by decide +kernel, rfl, by decide⟩
theorem dUmp_charAt_17 : uD prog_1_method_12_code 17 (.bipush (-2)) 2 19 := ⟨by decide +kernel, rfl⟩
theorem dUmp_charAt_19 : uD prog_1_method_12_code 19 (.ireturn) 1 20 := ⟨by decide +kernel, rfl⟩
theorem dUmp_charAt_20 : uD prog_1_method_12_code 20 (.aload_n 0) 1 21 := ⟨by decide +kernel, rfl⟩
theorem dUmp_charAt_21 : uD prog_1_method_12_code 21 (.getfield 35) 3 24 := ⟨by decide +kernel, rfl⟩
theorem dUmp_charAt_24 : uD prog_1_method_12_code 24 (.iload_n 1) 1 25 := ⟨by decide +kernel, rfl⟩
theorem dUmp_charAt_25 : uD prog_1_method_12_code 25 (.invokevirtual 158) 3 28 := ⟨by decide +kernel, rfl⟩
theorem dUmp_charAt_28 : uD prog_1_method_12_code 28 (.getfield 162) 3 31 := ⟨by decide +kernel, rfl⟩
theorem dUmp_charAt_31 : uD prog_1_method_12_code 31 (.astore_n 3) 1 32 := ⟨by decide +kernel, rfl⟩
theorem dUmp_charAt_32 : uD prog_1_method_12_code 32 (.iload_n 2) 1 33 := ⟨by decide +kernel, rfl⟩
theorem dUmp_charAt_33 : uD prog_1_method_12_code 33 (.aload_n 3) 1 34 := ⟨by decide +kernel, rfl⟩
theorem dUmp_charAt_34 : uD prog_1_method_12_code 34 (.invokevirtual 132) 3 37 := ⟨by decide +kernel, rfl⟩
theorem dUmp_charAt_37 : uB prog_1_method_12_code 37 (.if_icmp .ge) 40 48 := ⟨11, by decide +kernel, rfl, by decide⟩
theorem dUmp_charAt_40 : uD prog_1_method_12_code 40 (.aload_n 3) 1 41 := ⟨by decide +kernel, rfl⟩
theorem dUmp_charAt_41 : uD prog_1_method_12_code 41 (.iload_n 2) 1 42 := ⟨by decide +kernel, rfl⟩
theorem dUmp_charAt_42 : uD prog_1_method_12_code 42 (.invokevirtual 167) 3 45 := ⟨by decide +kernel, rfl⟩
theorem dUmp_charAt_45 : uB prog_1_method_12_code 45 .goto 48 50 := ⟨5, by decide +kernel, rfl, by decide⟩
theorem dUmp_charAt_48 : uD prog_1_method_12_code 48 (.bipush (-5)) 2 50 := ⟨by decide +kernel, rfl⟩
theorem dUmp_charAt_50 : uD prog_1_method_12_code 50 (.ireturn) 1 51 := ⟨by decide +kernel, rfl⟩
theorem dUmp_code_0 : uD prog_1_method_13_code 0 (.aload_n 0) 1 1 := ⟨by decide +kernel, rfl⟩
theorem dUmp_code_1 : uD prog_1_method_13_code 1 (.getfield 35) 3 4 := ⟨by decide +kernel, rfl⟩
theorem dUmp_code_4 : uD prog_1_method_13_code 4 (.iload_n 1) 1 5 := ⟨by decide +kernel, rfl⟩
theorem dUmp_code_5 : uD prog_1_method_13_code 5 (.invokevirtual 123) 3 8 := ⟨by decide +kernel, rfl⟩
theorem dUmp_code_8 : uB prog_1_method_13_code 8 (.ifCond .ne) 11 13 := ⟨5, by decide +kernel, rfl, by decide⟩
theorem dUmp_code_11 : uD prog_1_method_13_code 11 (.iconst (-1)) 1 12 := ⟨by decide +kernel, rfl⟩
theorem dUmp_code_12 : uD prog_1_method_13_code 12 (.ireturn) 1 13 := ⟨by decide +kernel, rfl⟩
theorem dUmp_code_13 : uD prog_1_method_13_code 13 (.iload_n 2) 1 14 := ⟨by decide +kernel, rfl⟩
theorem dUmp_code_14 : uB prog_1_method_13_code 14 (.ifCond .lt) 17 26 := ⟨12, by decide +kernel, rfl, by decide⟩
theorem dUmp_code_17 : uD prog_1_method_13_code 17 (.iload_n 2) 1 18 := ⟨by decide +kernel, rfl⟩
theorem dUmp_code_18 : uD prog_1_method_13_code 18 (.iconst 4) 1 19 := ⟨by decide +kernel, rfl⟩
theorem dUmp_code_19 : uB prog_1_method_13_code 19 (.if_icmp .ge) 22 26 := ⟨7, by decide +kernel, rfl, by decide⟩
theorem dUmp_code_22 : uD prog_1_method_13_code 22 (.iload_n 3) 1 23 := ⟨by decide +kernel, rfl⟩
theorem dUmp_code_23 : uB prog_1_method_13_code 23 (.ifCond .ge) 26 29 := ⟨6, by decide +kernel, rfl, by decide⟩
theorem dUmp_code_26 : uD prog_1_method_13_code 26 (.bipush (-2)) 2 28 := ⟨by decide +kernel, rfl⟩
theorem dUmp_code_28 : uD prog_1_method_13_code 28 (.ireturn) 1 29 := ⟨by decide +kernel, rfl⟩
theorem dUmp_code_29 : uD prog_1_method_13_code 29 (.aload_n 0) 1 30 := ⟨by decide +kernel, rfl⟩
theorem dUmp_code_30 : uD prog_1_method_13_code 30 (.iload_n 1) 1 31 := ⟨by decide +kernel, rfl⟩
theorem dUmp_code_31 : uD prog_1_method_13_code 31 (.invokevirtual 101) 3 34 := ⟨by decide +kernel, rfl⟩
theorem dUmp_code_34 : uD prog_1_method_13_code 34 (.iload_n 2) 1 35 := ⟨by decide +kernel, rfl⟩
theorem dUmp_code_35 : uD prog_1_method_13_code 35 (.invokevirtual 171) 3 38 := ⟨by decide +kernel, rfl⟩
theorem dUmp_code_38 : uD prog_1_method_13_code 38 (.astore 4) 2 40 := ⟨by decide +kernel, rfl⟩
theorem dUmp_code_40 : uD prog_1_method_13_code 40 (.iload_n 3) 1 41 := ⟨by decide +kernel, rfl⟩
theorem dUmp_code_41 : uD prog_1_method_13_code 41 (.aload 4) 2 43 := ⟨by decide +kernel, rfl⟩
theorem dUmp_code_43 : uD prog_1_method_13_code 43 (.invokevirtual 132) 3 46 := ⟨by decide +kernel, rfl⟩
theorem dUmp_code_46 : uB prog_1_method_13_code 46 (.if_icmp .ge) 49 58 := ⟨12, by decide +kernel, rfl, by decide⟩
theorem dUmp_code_49 : uD prog_1_method_13_code 49 (.aload 4) 2 51 := ⟨by decide +kernel, rfl⟩
theorem dUmp_code_51 : uD prog_1_method_13_code 51 (.iload_n 3) 1 52 := ⟨by decide +kernel, rfl⟩
theorem dUmp_code_52 : uD prog_1_method_13_code 52 (.invokevirtual 167) 3 55 := ⟨by decide +kernel, rfl⟩
theorem dUmp_code_55 : uB prog_1_method_13_code 55 .goto 58 60 := ⟨5, by decide +kernel, rfl, by decide⟩
theorem dUmp_code_58 : uD prog_1_method_13_code 58 (.bipush (-5)) 2 60 := ⟨by decide +kernel, rfl⟩
theorem dUmp_code_60 : uD prog_1_method_13_code 60 (.ireturn) 1 61 := ⟨by decide +kernel, rfl⟩
theorem dUmp_bits_0 : uD prog_1_method_14_code 0 (.aload_n 0) 1 1 := ⟨by decide +kernel, rfl⟩
theorem dUmp_bits_1 : uD prog_1_method_14_code 1 (.getfield 35) 3 4 := ⟨by decide +kernel, rfl⟩
theorem dUmp_bits_4 : uD prog_1_method_14_code 4 (.iload_n 1) 1 5 := ⟨by decide +kernel, rfl⟩
theorem dUmp_bits_5 : uD prog_1_method_14_code 5 (.invokevirtual 123) 3 8 := ⟨by decide +kernel, rfl⟩
theorem dUmp_bits_8 : uB prog_1_method_14_code 8 (.ifCond .ne) 11 13 := ⟨5, by decide +kernel, rfl, by decide⟩
theorem dUmp_bits_11 : uD prog_1_method_14_code 11 (.iconst (-1)) 1 12 := ⟨by decide +kernel, rfl⟩
theorem dUmp_bits_12 : uD prog_1_method_14_code 12 (.ireturn) 1 13 := ⟨by decide +kernel, rfl⟩
theorem dUmp_bits_13 : uD prog_1_method_14_code 13 (.iload_n 2) 1 14 := ⟨by decide +kernel, rfl⟩
theorem dUmp_bits_14 : uB prog_1_method_14_code 14 (.ifCond .lt) 17 22 := ⟨8, by decide +kernel, rfl, by decide⟩
theorem dUmp_bits_17 : uD prog_1_method_14_code 17 (.iload_n 2) 1 18 := ⟨by decide +kernel, rfl⟩
theorem dUmp_bits_18 : uD prog_1_method_14_code 18 (.iconst 4) 1 19 := ⟨by decide +kernel, rfl⟩
theorem dUmp_bits_19 : uB prog_1_method_14_code 19 (.if_icmp .le) 22 25 := ⟨6, by decide +kernel, rfl, by decide⟩
theorem dUmp_bits_22 : uD prog_1_method_14_code 22 (.bipush (-2)) 2 24 := ⟨by decide +kernel, rfl⟩
theorem dUmp_bits_24 : uD prog_1_method_14_code 24 (.ireturn) 1 25 := ⟨by decide +kernel, rfl⟩
theorem dUmp_bits_25 : uD prog_1_method_14_code 25 (.aload_n 0) 1 26 := ⟨by decide +kernel, rfl⟩
theorem dUmp_bits_26 : uD prog_1_method_14_code 26 (.iload_n 1) 1 27 := ⟨by decide +kernel, rfl⟩
theorem dUmp_bits_27 : uD prog_1_method_14_code 27 (.invokevirtual 101) 3 30 := ⟨by decide +kernel, rfl⟩
theorem dUmp_bits_30 : uD prog_1_method_14_code 30 (.astore_n 3) 1 31 := ⟨by decide +kernel, rfl⟩
theorem dUmp_bits_31 : uD prog_1_method_14_code 31 (.iload_n 2) 1 32 := ⟨by decide +kernel, rfl⟩
theorem dUmp_bits_32 : uD prog_1_method_14_code 32 (.iconst 4) 1 33 := ⟨by decide +kernel, rfl⟩
theorem dUmp_bits_33 : uB prog_1_method_14_code 33 (.if_icmp .ne) 36 43 := ⟨10, by decide +kernel, rfl, by decide⟩
theorem dUmp_bits_36 : uD prog_1_method_14_code 36 (.aload_n 3) 1 37 := ⟨by decide +kernel, rfl⟩
theorem dUmp_bits_37 : uD prog_1_method_14_code 37 (.invokevirtual 117) 3 40 := ⟨by decide +kernel, rfl⟩
theorem dUmp_bits_40 : uB prog_1_method_14_code 40 .goto 43 48 := ⟨8, by decide +kernel, rfl, by decide⟩
theorem dUmp_bits_43 : uD prog_1_method_14_code 43 (.aload_n 3) 1 44 := ⟨by decide +kernel, rfl⟩
theorem dUmp_bits_44 : uD prog_1_method_14_code 44 (.iload_n 2) 1 45 := ⟨by decide +kernel, rfl⟩
theorem dUmp_bits_45 : uD prog_1_method_14_code 45 (.invokevirtual 175) 3 48 := ⟨by decide +kernel, rfl⟩
theorem dUmp_bits_48 : uD prog_1_method_14_code 48 (.ireturn) 1 49 := ⟨by decide +kernel, rfl⟩
theorem dUmp_wouldTake_0 : uD prog_1_method_15_code 0 (.aload_n 0) 1 1 := ⟨by decide +kernel, rfl⟩
theorem dUmp_wouldTake_1 : uD prog_1_method_15_code 1 (.getfield 21) 3 4 := ⟨by decide +kernel, rfl⟩
theorem dUmp_wouldTake_4 : uD prog_1_method_15_code 4 (.aload_n 0) 1 5 := ⟨by decide +kernel, rfl⟩
theorem dUmp_wouldTake_5 : uD prog_1_method_15_code 5 (.getfield 14) 3 8 := ⟨by decide +kernel, rfl⟩
theorem dUmp_wouldTake_8 : uD prog_1_method_15_code 8 (.aload_n 0) 1 9 := ⟨by decide +kernel, rfl⟩
theorem dUmp_wouldTake_9 : uD prog_1_method_15_code 9 (.getfield 35) 3 12 := ⟨by decide +kernel, rfl⟩
theorem dUmp_wouldTake_12 : uD prog_1_method_15_code 12 (.invokevirtual 86) 3 15 := ⟨by decide +kernel, rfl⟩
theorem dUmp_wouldTake_15 : uD prog_1_method_15_code 15 (.aload_n 0) 1 16 := ⟨by decide +kernel, rfl⟩
theorem dUmp_wouldTake_16 : uD prog_1_method_15_code 16 (.getfield 21) 3 19 := ⟨by decide +kernel, rfl⟩
theorem dUmp_wouldTake_19 : uD prog_1_method_15_code 19 (.invokevirtual 90) 3 22 := ⟨by decide +kernel, rfl⟩
theorem dUmp_wouldTake_22 : uB prog_1_method_15_code 22 (.ifCond .eq) 25 36 := ⟨14, by decide +kernel, rfl, by decide⟩
theorem dUmp_wouldTake_25 : uD prog_1_method_15_code 25 (.bipush (-100)) 2 27 := ⟨by decide +kernel, rfl⟩
theorem dUmp_wouldTake_27 : uD prog_1_method_15_code 27 (.aload_n 0) 1 28 := ⟨by decide +kernel, rfl⟩
theorem dUmp_wouldTake_28 : uD prog_1_method_15_code 28 (.getfield 21) 3 31 := ⟨by decide +kernel, rfl⟩
theorem dUmp_wouldTake_31 : uD prog_1_method_15_code 31 (.getfield 94) 3 34 := ⟨by decide +kernel, rfl⟩
theorem dUmp_wouldTake_34 : uD prog_1_method_15_code 34 (.isub) 1 35 := ⟨by decide +kernel, rfl⟩
theorem dUmp_wouldTake_35 : uD prog_1_method_15_code 35 (.ireturn) 1 36 := ⟨by decide +kernel, rfl⟩
theorem dUmp_wouldTake_36 : uD prog_1_method_15_code 36 (.aload_n 0) 1 37 := ⟨by decide +kernel, rfl⟩
theorem dUmp_wouldTake_37 : uD prog_1_method_15_code 37 (.getfield 59) 3 40 := ⟨by decide +kernel, rfl⟩
theorem dUmp_wouldTake_40 : uD prog_1_method_15_code 40 (.invokevirtual 178) 3 43 := ⟨by decide +kernel, rfl⟩
theorem dUmp_wouldTake_43 : uD prog_1_method_15_code 43 (.iload_n 1) 1 44 := ⟨by decide +kernel, rfl⟩
theorem dUmp_wouldTake_44 : uB prog_1_method_15_code 44 (.ifCond .eq) 47 51 := ⟨7, by decide +kernel, rfl, by decide⟩
theorem dUmp_wouldTake_47 : uD prog_1_method_15_code 47 (.iconst 0) 1 48 := ⟨by decide +kernel, rfl⟩
theorem dUmp_wouldTake_48 : uB prog_1_method_15_code 48 .goto 51 58 := ⟨10, by decide +kernel, rfl, by decide⟩
theorem dUmp_wouldTake_51 : uD prog_1_method_15_code 51 (.aload_n 0) 1 52 := ⟨by decide +kernel, rfl⟩
theorem dUmp_wouldTake_52 : uD prog_1_method_15_code 52 (.getfield 35) 3 55 := ⟨by decide +kernel, rfl⟩
theorem dUmp_wouldTake_55 : uD prog_1_method_15_code 55 (.getfield 98) 3 58 := ⟨by decide +kernel, rfl⟩
theorem dUmp_wouldTake_58 : uD prog_1_method_15_code 58 (.istore_n 2) 1 59 := ⟨by decide +kernel, rfl⟩
theorem dUmp_wouldTake_59 : uD prog_1_method_15_code 59 (.iconst 0) 1 60 := ⟨by decide +kernel, rfl⟩
theorem dUmp_wouldTake_60 : uD prog_1_method_15_code 60 (.istore_n 3) 1 61 := ⟨by decide +kernel, rfl⟩
theorem dUmp_wouldTake_61 : uD prog_1_method_15_code 61 (.iload_n 3) 1 62 := ⟨by decide +kernel, rfl⟩
theorem dUmp_wouldTake_62 : uD prog_1_method_15_code 62 (.iload_n 2) 1 63 := ⟨by decide +kernel, rfl⟩
theorem dUmp_wouldTake_63 : uB prog_1_method_15_code 63 (.if_icmp .ge) 66 91 := ⟨28, by decide +kernel, rfl, by decide⟩
theorem dUmp_wouldTake_66 : uD prog_1_method_15_code 66 (.aload_n 0) 1 67 := ⟨by decide +kernel, rfl⟩
theorem dUmp_wouldTake_67 : uD prog_1_method_15_code 67 (.getfield 59) 3 70 := ⟨by decide +kernel, rfl⟩
theorem dUmp_wouldTake_70 : uD prog_1_method_15_code 70 (.aload_n 0) 1 71 := ⟨by decide +kernel, rfl⟩
theorem dUmp_wouldTake_71 : uD prog_1_method_15_code 71 (.getfield 35) 3 74 := ⟨by decide +kernel, rfl⟩
theorem dUmp_wouldTake_74 : uD prog_1_method_15_code 74 (.iload_n 3) 1 75 := ⟨by decide +kernel, rfl⟩
theorem dUmp_wouldTake_75 : uD prog_1_method_15_code 75 (.invokevirtual 158) 3 78 := ⟨by decide +kernel, rfl⟩
theorem dUmp_wouldTake_78 : uD prog_1_method_15_code 78 (.aload_n 0) 1 79 := ⟨by decide +kernel, rfl⟩
theorem dUmp_wouldTake_79 : uD prog_1_method_15_code 79 (.getfield 63) 3 82 := ⟨by decide +kernel, rfl⟩
theorem dUmp_wouldTake_82 : uD prog_1_method_15_code 82 (.invokevirtual 113) 3 85 := ⟨by decide +kernel, rfl⟩
theorem dUmp_wouldTake_85 : uD prog_1_method_15_code 85 (.iinc 3 1) 3 88 := ⟨by decide +kernel, rfl⟩
theorem dUmp_wouldTake_88 : uB prog_1_method_15_code 88 .goto 91 61 := ⟨-27, by decide +kernel, rfl, by decide⟩
theorem dUmp_wouldTake_91 : uD prog_1_method_15_code 91 (.aload_n 0) 1 92 := ⟨by decide +kernel, rfl⟩
theorem dUmp_wouldTake_92 : uD prog_1_method_15_code 92 (.getfield 59) 3 95 := ⟨by decide +kernel, rfl⟩
theorem dUmp_wouldTake_95 : uD prog_1_method_15_code 95 (.aload_n 0) 1 96 := ⟨by decide +kernel, rfl⟩
theorem dUmp_wouldTake_96 : uD prog_1_method_15_code 96 (.getfield 21) 3 99 := ⟨by decide +kernel, rfl⟩
theorem dUmp_wouldTake_99 : uD prog_1_method_15_code 99 (.getfield 105) 3 102 := ⟨by decide +kernel, rfl⟩
theorem dUmp_wouldTake_102 : uD prog_1_method_15_code 102 (.aload_n 0) 1 103 := ⟨by decide +kernel, rfl⟩
theorem dUmp_wouldTake_103 : uD prog_1_method_15_code 103 (.getfield 63) 3 106 := ⟨by decide +kernel, rfl⟩
theorem dUmp_wouldTake_106 : uD prog_1_method_15_code 106 (.invokevirtual 113) 3 109 := ⟨by decide +kernel, rfl⟩
theorem dUmp_wouldTake_109 : uD prog_1_method_15_code 109 (.aload_n 0) 1 110 := ⟨by decide +kernel, rfl⟩
theorem dUmp_wouldTake_110 : uD prog_1_method_15_code 110 (.getfield 63) 3 113 := ⟨by decide +kernel, rfl⟩
theorem dUmp_wouldTake_113 : uD prog_1_method_15_code 113 (.invokevirtual 117) 3 116 := ⟨by decide +kernel, rfl⟩
theorem dUmp_wouldTake_116 : uD prog_1_method_15_code 116 (.ireturn) 1 117 := ⟨by decide +kernel, rfl⟩
theorem dUmp_path_0 : uD prog_1_method_16_code 0 (.aload_n 0) 1 1 := ⟨by decide +kernel, rfl⟩
theorem dUmp_path_1 : uD prog_1_method_16_code 1 (.getfield 35) 3 4 := ⟨by decide +kernel, rfl⟩
theorem dUmp_path_4 : uD prog_1_method_16_code 4 (.iload_n 1) 1 5 := ⟨by decide +kernel, rfl⟩
theorem dUmp_path_5 : uD prog_1_method_16_code 5 (.invokevirtual 123) 3 8 := ⟨by decide +kernel, rfl⟩
theorem dUmp_path_8 : uB prog_1_method_16_code 8 (.ifCond .ne) 11 13 := ⟨5, by decide +kernel, rfl, by decide⟩
theorem dUmp_path_11 : uD prog_1_method_16_code 11 (.iconst (-1)) 1 12 := ⟨by decide +kernel, rfl⟩
theorem dUmp_path_12 : uD prog_1_method_16_code 12 (.ireturn) 1 13 := ⟨by decide +kernel, rfl⟩
theorem dUmp_path_13 : uD prog_1_method_16_code 13 (.iload_n 2) 1 14 := ⟨by decide +kernel, rfl⟩
theorem dUmp_path_14 : uB prog_1_method_16_code 14 (.ifCond .lt) 17 22 := ⟨8, by decide +kernel, rfl, by decide⟩
theorem dUmp_path_17 : uD prog_1_method_16_code 17 (.iload_n 2) 1 18 := ⟨by decide +kernel, rfl⟩
theorem dUmp_path_18 : uD prog_1_method_16_code 18 (.iconst 5) 1 19 := ⟨by decide +kernel, rfl⟩
theorem dUmp_path_19 : uB prog_1_method_16_code 19 (.if_icmp .le) 22 25 := ⟨6, by decide +kernel, rfl, by decide⟩
theorem dUmp_path_22 : uD prog_1_method_16_code 22 (.bipush (-2)) 2 24 := ⟨by decide +kernel, rfl⟩
theorem dUmp_path_24 : uD prog_1_method_16_code 24 (.ireturn) 1 25 := ⟨by decide +kernel, rfl⟩
theorem dUmp_path_25 : uD prog_1_method_16_code 25 (.aload_n 0) 1 26 := ⟨by decide +kernel, rfl⟩
theorem dUmp_path_26 : uD prog_1_method_16_code 26 (.getfield 28) 3 29 := ⟨by decide +kernel, rfl⟩
theorem dUmp_path_29 : uD prog_1_method_16_code 29 (.aload_n 0) 1 30 := ⟨by decide +kernel, rfl⟩
theorem dUmp_path_30 : uD prog_1_method_16_code 30 (.getfield 14) 3 33 := ⟨by decide +kernel, rfl⟩
theorem dUmp_path_33 : uD prog_1_method_16_code 33 (.invokevirtual 181) 3 36 := ⟨by decide +kernel, rfl⟩
theorem dUmp_path_36 : uD prog_1_method_16_code 36 (.istore_n 3) 1 37 := ⟨by decide +kernel, rfl⟩
theorem dUmp_path_37 : uD prog_1_method_16_code 37 (.iload_n 3) 1 38 := ⟨by decide +kernel, rfl⟩
theorem dUmp_path_38 : uD prog_1_method_16_code 38 (.iconst (-1)) 1 39 := ⟨by decide +kernel, rfl⟩
theorem dUmp_path_39 : uB prog_1_method_16_code 39 (.if_icmp .eq) 42 47 := ⟨8, by decide +kernel, rfl, by decide⟩
theorem dUmp_path_42 : uD prog_1_method_16_code 42 (.bipush (-100)) 2 44 := ⟨by decide +kernel, rfl⟩
theorem dUmp_path_44 : uD prog_1_method_16_code 44 (.iload_n 3) 1 45 := ⟨by decide +kernel, rfl⟩
theorem dUmp_path_45 : uD prog_1_method_16_code 45 (.isub) 1 46 := ⟨by decide +kernel, rfl⟩
theorem dUmp_path_46 : uD prog_1_method_16_code 46 (.ireturn) 1 47 := ⟨by decide +kernel, rfl⟩
theorem dUmp_path_47 : uD prog_1_method_16_code 47 (.aload_n 0) 1 48 := ⟨by decide +kernel, rfl⟩
theorem dUmp_path_48 : uD prog_1_method_16_code 48 (.getfield 35) 3 51 := ⟨by decide +kernel, rfl⟩
theorem dUmp_path_51 : uD prog_1_method_16_code 51 (.iload_n 1) 1 52 := ⟨by decide +kernel, rfl⟩
theorem dUmp_path_52 : uD prog_1_method_16_code 52 (.invokevirtual 158) 3 55 := ⟨by decide +kernel, rfl⟩
theorem dUmp_path_55 : uD prog_1_method_16_code 55 (.astore 4) 2 57 := ⟨by decide +kernel, rfl⟩
theorem dUmp_path_57 : uD prog_1_method_16_code 57 (.aload_n 0) 1 58 := ⟨by decide +kernel, rfl⟩
theorem dUmp_path_58 : uD prog_1_method_16_code 58 (.getfield 28) 3 61 := ⟨by decide +kernel, rfl⟩
theorem dUmp_path_61 : uD prog_1_method_16_code 61 (.aload 4) 2 63 := ⟨by decide +kernel, rfl⟩
theorem dUmp_path_63 : uD prog_1_method_16_code 63 (.invokevirtual 185) 3 66 := ⟨by decide +kernel, rfl⟩
theorem dUmp_path_66 : uD prog_1_method_16_code 66 (.istore 5) 2 68 := ⟨by decide +kernel, rfl⟩
theorem dUmp_path_68 : uD prog_1_method_16_code 68 (.iload 5) 2 70 := ⟨by decide +kernel, rfl⟩
theorem dUmp_path_70 : uD prog_1_method_16_code 70 (.iconst (-1)) 1 71 := ⟨by decide +kernel, rfl⟩
theorem dUmp_path_71 : uB prog_1_method_16_code 71 (.if_icmp .ne) 74 79 := ⟨8, by decide +kernel, rfl, by decide⟩
theorem dUmp_path_74 : uD prog_1_method_16_code 74 (.bipush (-5)) 2 76 := ⟨by decide +kernel, rfl⟩
theorem dUmp_path_76 : uB prog_1_method_16_code 76 .goto 79 88 := ⟨12, by decide +kernel, rfl, by decide⟩
theorem dUmp_path_79 : uD prog_1_method_16_code 79 (.aload_n 0) 1 80 := ⟨by decide +kernel, rfl⟩
theorem dUmp_path_80 : uD prog_1_method_16_code 80 (.aload 4) 2 82 := ⟨by decide +kernel, rfl⟩
theorem dUmp_path_82 : uD prog_1_method_16_code 82 (.iload 5) 2 84 := ⟨by decide +kernel, rfl⟩
theorem dUmp_path_84 : uD prog_1_method_16_code 84 (.iload_n 2) 1 85 := ⟨by decide +kernel, rfl⟩
theorem dUmp_path_85 : uD prog_1_method_16_code 85 (.invokevirtual 189) 3 88 := ⟨by decide +kernel, rfl⟩
theorem dUmp_path_88 : uD prog_1_method_16_code 88 (.ireturn) 1 89 := ⟨by decide +kernel, rfl⟩
theorem dUmp_known_0 : uD prog_1_method_17_code 0 (.iload_n 1) 1 1 := ⟨by decide +kernel, rfl⟩
theorem dUmp_known_1 : uB prog_1_method_17_code 1 (.ifCond .lt) 4 10 := ⟨9, by decide +kernel, rfl, by decide⟩
theorem dUmp_known_4 : uD prog_1_method_17_code 4 (.iload_n 1) 1 5 := ⟨by decide +kernel, rfl⟩
theorem dUmp_known_5 : uD prog_1_method_17_code 5 (.bipush 6) 2 7 := ⟨by decide +kernel, rfl⟩
theorem dUmp_known_7 : uB prog_1_method_17_code 7 (.if_icmp .le) 10 12 := ⟨5, by decide +kernel, rfl, by decide⟩
theorem dUmp_known_10 : uD prog_1_method_17_code 10 (.iconst (-1)) 1 11 := ⟨by decide +kernel, rfl⟩
theorem dUmp_known_11 : uD prog_1_method_17_code 11 (.ireturn) 1 12 := ⟨by decide +kernel, rfl⟩
theorem dUmp_known_12 : uD prog_1_method_17_code 12 (.iload_n 2) 1 13 := ⟨by decide +kernel, rfl⟩
theorem dUmp_known_13 : uB prog_1_method_17_code 13 (.ifCond .ge) 16 19 := ⟨6, by decide +kernel, rfl, by decide⟩
theorem dUmp_known_16 : uD prog_1_method_17_code 16 (.bipush (-2)) 2 18 := ⟨by decide +kernel, rfl⟩
theorem dUmp_known_18 : uD prog_1_method_17_code 18 (.ireturn) 1 19 := ⟨by decide +kernel, rfl⟩
theorem dUmp_known_19 : uD prog_1_method_17_code 19 (.aload_n 0) 1 20 := ⟨by decide +kernel, rfl⟩
theorem dUmp_known_20 : uD prog_1_method_17_code 20 (.getfield 49) 3 23 := ⟨by decide +kernel, rfl⟩
theorem dUmp_known_23 : uD prog_1_method_17_code 23 (.iload_n 1) 1 24 := ⟨by decide +kernel, rfl⟩
theorem dUmp_known_24 : uD prog_1_method_17_code 24 (.invokevirtual 193) 3 27 := ⟨by decide +kernel, rfl⟩
theorem dUmp_known_27 : uD prog_1_method_17_code 27 (.astore_n 3) 1 28 := ⟨by decide +kernel, rfl⟩
theorem dUmp_known_28 : uD prog_1_method_17_code 28 (.iload_n 2) 1 29 := ⟨by decide +kernel, rfl⟩
theorem dUmp_known_29 : uD prog_1_method_17_code 29 (.aload_n 3) 1 30 := ⟨by decide +kernel, rfl⟩
theorem dUmp_known_30 : uD prog_1_method_17_code 30 (.invokevirtual 197) 3 33 := ⟨by decide +kernel, rfl⟩
theorem dUmp_known_33 : uB prog_1_method_17_code 33 (.if_icmp .ge) 36 45 := ⟨12, by decide +kernel, rfl, by decide⟩
theorem dUmp_known_36 : uD prog_1_method_17_code 36 (.aload_n 3) 1 37 := ⟨by decide +kernel, rfl⟩
theorem dUmp_known_37 : uD prog_1_method_17_code 37 (.iload_n 2) 1 38 := ⟨by decide +kernel, rfl⟩
theorem dUmp_known_38 : uD prog_1_method_17_code 38 (.invokevirtual 200) 3 41 := ⟨by decide +kernel, rfl⟩
theorem dUmp_known_41 : uD prog_1_method_17_code 41 (.l2i) 1 42 := ⟨by decide +kernel, rfl⟩
theorem dUmp_known_42 : uB prog_1_method_17_code 42 .goto 45 47 := ⟨5, by decide +kernel, rfl, by decide⟩
theorem dUmp_known_45 : uD prog_1_method_17_code 45 (.bipush (-5)) 2 47 := ⟨by decide +kernel, rfl⟩
theorem dUmp_known_47 : uD prog_1_method_17_code 47 (.ireturn) 1 48 := ⟨by decide +kernel, rfl⟩
theorem dUmp_latest_0 : uD prog_1_method_18_code 0 (.iload_n 1) 1 1 := ⟨by decide +kernel, rfl⟩
theorem dUmp_latest_1 : uD prog_1_method_18_code 1 (.invokestatic 67) 3 4 := ⟨by decide +kernel, rfl⟩
theorem dUmp_latest_4 : uB prog_1_method_18_code 4 (.ifCond .eq) 7 16 := ⟨12, by decide +kernel, rfl, by decide⟩
theorem dUmp_latest_7 : uD prog_1_method_18_code 7 (.iload_n 2) 1 8 := ⟨by decide +kernel, rfl⟩
theorem dUmp_latest_8 : uB prog_1_method_18_code 8 (.ifCond .lt) 11 16 := ⟨8, by decide +kernel, rfl, by decide⟩
theorem dUmp_latest_11 : uD prog_1_method_18_code 11 (.iload_n 2) 1 12 := ⟨by decide +kernel, rfl⟩
theorem dUmp_latest_12 : uD prog_1_method_18_code 12 (.iconst 4) 1 13 := ⟨by decide +kernel, rfl⟩
theorem dUmp_latest_13 : uB prog_1_method_18_code 13 (.if_icmp .lt) 16 18 := ⟨5, by decide +kernel, rfl, by decide⟩
theorem dUmp_latest_16 : uD prog_1_method_18_code 16 (.iconst (-1)) 1 17 := ⟨by decide +kernel, rfl⟩
theorem dUmp_latest_17 : uD prog_1_method_18_code 17 (.ireturn) 1 18 := ⟨by decide +kernel, rfl⟩
theorem dUmp_latest_18 : uD prog_1_method_18_code 18 (.aload_n 0) 1 19 := ⟨by decide +kernel, rfl⟩
theorem dUmp_latest_19 : uD prog_1_method_18_code 19 (.getfield 49) 3 22 := ⟨by decide +kernel, rfl⟩
theorem dUmp_latest_22 : uD prog_1_method_18_code 22 (.iload_n 1) 1 23 := ⟨by decide +kernel, rfl⟩
theorem dUmp_latest_23 : uD prog_1_method_18_code 23 (.iload_n 2) 1 24 := ⟨by decide +kernel, rfl⟩
theorem dUmp_latest_24 : uD prog_1_method_18_code 24 (.invokevirtual 203) 3 27 := ⟨by decide +kernel, rfl⟩
theorem dUmp_latest_27 : uD prog_1_method_18_code 27 (.istore_n 3) 1 28 := ⟨by decide +kernel, rfl⟩
theorem dUmp_latest_28 : uD prog_1_method_18_code 28 (.iload_n 3) 1 29 := ⟨by decide +kernel, rfl⟩
theorem dUmp_latest_29 : uD prog_1_method_18_code 29 (.iconst (-1)) 1 30 := ⟨by decide +kernel, rfl⟩
theorem dUmp_latest_30 : uB prog_1_method_18_code 30 (.if_icmp .ne) 33 38 := ⟨8, by decide +kernel, rfl, by decide⟩
theorem dUmp_latest_33 : uD prog_1_method_18_code 33 (.bipush (-5)) 2 35 := ⟨by decide +kernel, rfl⟩
theorem dUmp_latest_35 : uB prog_1_method_18_code 35 .goto 38 39 := ⟨4, by decide +kernel, rfl, by decide⟩
theorem dUmp_latest_38 : uD prog_1_method_18_code 38 (.iload_n 3) 1 39 := ⟨by decide +kernel, rfl⟩
theorem dUmp_latest_39 : uD prog_1_method_18_code 39 (.ireturn) 1 40 := ⟨by decide +kernel, rfl⟩
theorem dUmp_count_0 : uD prog_1_method_19_code 0 (.iload_n 1) 1 1 := ⟨by decide +kernel, rfl⟩
theorem dUmp_count_1 : decode prog_1_method_19_code 1 = .ok (.tableswitch 122 0 8 #[51, 59, 67, 72, 80, 91, 100, 109, 114], 51) := by decide +kernel
theorem dUmp_count_52 : uD prog_1_method_19_code 52 (.aload_n 0) 1 53 := ⟨by decide +kernel, rfl⟩
theorem dUmp_count_53 : uD prog_1_method_19_code 53 (.getfield 35) 3 56 := ⟨by decide +kernel, rfl⟩
theorem dUmp_count_56 : uD prog_1_method_19_code 56 (.getfield 98) 3 59 := ⟨by decide +kernel, rfl⟩
theorem dUmp_count_59 : uD prog_1_method_19_code 59 (.ireturn) 1 60 := ⟨by decide +kernel, rfl⟩
theorem dUmp_count_60 : uD prog_1_method_19_code 60 (.aload_n 0) 1 61 := ⟨by decide +kernel, rfl⟩
theorem dUmp_count_61 : uD prog_1_method_19_code 61 (.getfield 35) 3 64 := ⟨by decide +kernel, rfl⟩
theorem dUmp_count_64 : uD prog_1_method_19_code 64 (.invokevirtual 82) 3 67 := ⟨by decide +kernel, rfl⟩
theorem dUmp_count_67 : uD prog_1_method_19_code 67 (.ireturn) 1 68 := ⟨by decide +kernel, rfl⟩
theorem dUmp_count_68 : uD prog_1_method_19_code 68 (.aload_n 0) 1 69 := ⟨by decide +kernel, rfl⟩
theorem dUmp_count_69 : uD prog_1_method_19_code 69 (.invokevirtual 126) 3 72 := ⟨by decide +kernel, rfl⟩
theorem dUmp_count_72 : uD prog_1_method_19_code 72 (.ireturn) 1 73 := ⟨by decide +kernel, rfl⟩
theorem dUmp_count_73 : uD prog_1_method_19_code 73 (.aload_n 0) 1 74 := ⟨by decide +kernel, rfl⟩
theorem dUmp_count_74 : uD prog_1_method_19_code 74 (.getfield 35) 3 77 := ⟨by decide +kernel, rfl⟩
theorem dUmp_count_77 : uD prog_1_method_19_code 77 (.invokevirtual 207) 3 80 := ⟨by decide +kernel, rfl⟩
theorem dUmp_count_80 : uD prog_1_method_19_code 80 (.ireturn) 1 81 := ⟨by decide +kernel, rfl⟩
theorem dUmp_count_81 : uD prog_1_method_19_code 81 (.aload_n 0) 1 82 := ⟨by decide +kernel, rfl⟩
theorem dUmp_count_82 : uD prog_1_method_19_code 82 (.getfield 49) 3 85 := ⟨by decide +kernel, rfl⟩
theorem dUmp_count_85 : uD prog_1_method_19_code 85 (.getfield 210) 3 88 := ⟨by decide +kernel, rfl⟩
theorem dUmp_count_88 : uD prog_1_method_19_code 88 (.invokevirtual 197) 3 91 := ⟨by decide +kernel, rfl⟩
theorem dUmp_count_91 : uD prog_1_method_19_code 91 (.ireturn) 1 92 := ⟨by decide +kernel, rfl⟩
theorem dUmp_count_92 : uD prog_1_method_19_code 92 (.aload_n 0) 1 93 := ⟨by decide +kernel, rfl⟩
theorem dUmp_count_93 : uD prog_1_method_19_code 93 (.getfield 35) 3 96 := ⟨by decide +kernel, rfl⟩
theorem dUmp_count_96 : uD prog_1_method_19_code 96 (.iconst 0) 1 97 := ⟨by decide +kernel, rfl⟩
theorem dUmp_count_97 : uD prog_1_method_19_code 97 (.invokevirtual 214) 3 100 := ⟨by decide +kernel, rfl⟩
theorem dUmp_count_100 : uD prog_1_method_19_code 100 (.ireturn) 1 101 := ⟨by decide +kernel, rfl⟩
theorem dUmp_count_101 : uD prog_1_method_19_code 101 (.aload_n 0) 1 102 := ⟨by decide +kernel, rfl⟩
theorem dUmp_count_102 : uD prog_1_method_19_code 102 (.getfield 35) 3 105 := ⟨by decide +kernel, rfl⟩
theorem dUmp_count_105 : uD prog_1_method_19_code 105 (.iconst 3) 1 106 := ⟨by decide +kernel, rfl⟩
theorem dUmp_count_106 : uD prog_1_method_19_code 106 (.invokevirtual 214) 3 109 := ⟨by decide +kernel, rfl⟩
theorem dUmp_count_109 : uD prog_1_method_19_code 109 (.ireturn) 1 110 := ⟨by decide +kernel, rfl⟩
theorem dUmp_count_110 : uD prog_1_method_19_code 110 (.aload_n 0) 1 111 := ⟨by decide +kernel, rfl⟩
theorem dUmp_count_111 : uD prog_1_method_19_code 111 (.getfield 147) 3 114 := ⟨by decide +kernel, rfl⟩
theorem dUmp_count_114 : uD prog_1_method_19_code 114 (.ireturn) 1 115 := ⟨by decide +kernel, rfl⟩
theorem dUmp_count_115 : uD prog_1_method_19_code 115 (.aload_n 0) 1 116 := ⟨by decide +kernel, rfl⟩
theorem dUmp_count_116 : uD prog_1_method_19_code 116 (.getfield 14) 3 119 := ⟨by decide +kernel, rfl⟩
theorem dUmp_count_119 : uD prog_1_method_19_code 119 (.invokevirtual 132) 3 122 := ⟨by decide +kernel, rfl⟩
theorem dUmp_count_122 : uD prog_1_method_19_code 122 (.ireturn) 1 123 := ⟨by decide +kernel, rfl⟩
theorem dUmp_count_123 : uD prog_1_method_19_code 123 (.bipush (-2)) 2 125 := ⟨by decide +kernel, rfl⟩
theorem dUmp_count_125 : uD prog_1_method_19_code 125 (.ireturn) 1 126 := ⟨by decide +kernel, rfl⟩
theorem dUmp_toldOfBox_0 : uD prog_1_method_20_code 0 (.iload_n 3) 1 1 := ⟨by decide +kernel, rfl⟩
theorem dUmp_toldOfBox_1 : decode prog_1_method_20_code 1 = .ok (.tableswitch 99 0 4 #[35, 44, 53, 62, 68], 35) := by decide +kernel
theorem dUmp_toldOfBox_36 : uD prog_1_method_20_code 36 (.aload_n 1) 1 37 := ⟨by decide +kernel, rfl⟩
theorem dUmp_toldOfBox_37 : uD prog_1_method_20_code 37 (.getfield 217) 3 40 := ⟨by decide +kernel, rfl⟩
theorem dUmp_toldOfBox_40 : uD prog_1_method_20_code 40 (.iload_n 2) 1 41 := ⟨by decide +kernel, rfl⟩
theorem dUmp_toldOfBox_41 : uD prog_1_method_20_code 41 (.invokevirtual 167) 3 44 := ⟨by decide +kernel, rfl⟩
theorem dUmp_toldOfBox_44 : uD prog_1_method_20_code 44 (.ireturn) 1 45 := ⟨by decide +kernel, rfl⟩
theorem dUmp_toldOfBox_45 : uD prog_1_method_20_code 45 (.aload_n 1) 1 46 := ⟨by decide +kernel, rfl⟩
theorem dUmp_toldOfBox_46 : uD prog_1_method_20_code 46 (.getfield 220) 3 49 := ⟨by decide +kernel, rfl⟩
theorem dUmp_toldOfBox_49 : uD prog_1_method_20_code 49 (.iload_n 2) 1 50 := ⟨by decide +kernel, rfl⟩
theorem dUmp_toldOfBox_50 : uD prog_1_method_20_code 50 (.invokevirtual 223) 3 53 := ⟨by decide +kernel, rfl⟩
theorem dUmp_toldOfBox_53 : uD prog_1_method_20_code 53 (.ireturn) 1 54 := ⟨by decide +kernel, rfl⟩
theorem dUmp_toldOfBox_54 : uD prog_1_method_20_code 54 (.aload_n 1) 1 55 := ⟨by decide +kernel, rfl⟩
theorem dUmp_toldOfBox_55 : uD prog_1_method_20_code 55 (.getfield 226) 3 58 := ⟨by decide +kernel, rfl⟩
theorem dUmp_toldOfBox_58 : uD prog_1_method_20_code 58 (.iload_n 2) 1 59 := ⟨by decide +kernel, rfl⟩
theorem dUmp_toldOfBox_59 : uD prog_1_method_20_code 59 (.invokevirtual 223) 3 62 := ⟨by decide +kernel, rfl⟩
theorem dUmp_toldOfBox_62 : uD prog_1_method_20_code 62 (.ireturn) 1 63 := ⟨by decide +kernel, rfl⟩
theorem dUmp_toldOfBox_63 : uD prog_1_method_20_code 63 (.aload_n 1) 1 64 := ⟨by decide +kernel, rfl⟩
theorem dUmp_toldOfBox_64 : uD prog_1_method_20_code 64 (.iload_n 2) 1 65 := ⟨by decide +kernel, rfl⟩
theorem dUmp_toldOfBox_65 : uD prog_1_method_20_code 65 (.invokevirtual 229) 3 68 := ⟨by decide +kernel, rfl⟩
theorem dUmp_toldOfBox_68 : uD prog_1_method_20_code 68 (.ireturn) 1 69 := ⟨by decide +kernel, rfl⟩
theorem dUmp_toldOfBox_69 : uD prog_1_method_20_code 69 (.aload_n 1) 1 70 := ⟨by decide +kernel, rfl⟩
theorem dUmp_toldOfBox_70 : uD prog_1_method_20_code 70 (.getfield 220) 3 73 := ⟨by decide +kernel, rfl⟩
theorem dUmp_toldOfBox_73 : uD prog_1_method_20_code 73 (.iload_n 2) 1 74 := ⟨by decide +kernel, rfl⟩
theorem dUmp_toldOfBox_74 : uD prog_1_method_20_code 74 (.invokevirtual 232) 3 77 := ⟨by decide +kernel, rfl⟩
theorem dUmp_toldOfBox_77 : uD prog_1_method_20_code 77 (.istore 4) 2 79 := ⟨by decide +kernel, rfl⟩
theorem dUmp_toldOfBox_79 : uD prog_1_method_20_code 79 (.iload 4) 2 81 := ⟨by decide +kernel, rfl⟩
theorem dUmp_toldOfBox_81 : uD prog_1_method_20_code 81 (.iconst (-1)) 1 82 := ⟨by decide +kernel, rfl⟩
theorem dUmp_toldOfBox_82 : uB prog_1_method_20_code 82 (.if_icmp .ne) 85 90 := ⟨8, by decide +kernel, rfl, by decide⟩
theorem dUmp_toldOfBox_85 : uD prog_1_method_20_code 85 (.bipush (-5)) 2 87 := ⟨by decide +kernel, rfl⟩
theorem dUmp_toldOfBox_87 : uB prog_1_method_20_code 87 .goto 90 99 := ⟨12, by decide +kernel, rfl, by decide⟩
theorem dUmp_toldOfBox_90 : uD prog_1_method_20_code 90 (.aload_n 1) 1 91 := ⟨by decide +kernel, rfl⟩
theorem dUmp_toldOfBox_91 : uD prog_1_method_20_code 91 (.getfield 235) 3 94 := ⟨by decide +kernel, rfl⟩
theorem dUmp_toldOfBox_94 : uD prog_1_method_20_code 94 (.iload 4) 2 96 := ⟨by decide +kernel, rfl⟩
theorem dUmp_toldOfBox_96 : uD prog_1_method_20_code 96 (.invokevirtual 167) 3 99 := ⟨by decide +kernel, rfl⟩
theorem dUmp_toldOfBox_99 : uD prog_1_method_20_code 99 (.ireturn) 1 100 := ⟨by decide +kernel, rfl⟩
theorem dUmp_toldOfBox_100 : uD prog_1_method_20_code 100 (.aload_n 0) 1 101 := ⟨by decide +kernel, rfl⟩
theorem dUmp_toldOfBox_101 : uD prog_1_method_20_code 101 (.getfield 28) 3 104 := ⟨by decide +kernel, rfl⟩
theorem dUmp_toldOfBox_104 : uD prog_1_method_20_code 104 (.invokevirtual 238) 3 107 := ⟨by decide +kernel, rfl⟩
theorem dUmp_toldOfBox_107 : uD prog_1_method_20_code 107 (.ireturn) 1 108 := ⟨by decide +kernel, rfl⟩
theorem dUmp_recordState_0 : uD prog_1_method_21_code 0 (.aload_n 0) 1 1 := ⟨by decide +kernel, rfl⟩
theorem dUmp_recordState_1 : uD prog_1_method_21_code 1 (.getfield 39) 3 4 := ⟨by decide +kernel, rfl⟩
theorem dUmp_recordState_4 : uD prog_1_method_21_code 4 (.iconst 0) 1 5 := ⟨by decide +kernel, rfl⟩
theorem dUmp_recordState_5 : uD prog_1_method_21_code 5 (.aaload) 1 6 := ⟨by decide +kernel, rfl⟩
theorem dUmp_recordState_6 : uD prog_1_method_21_code 6 (.astore_n 1) 1 7 := ⟨by decide +kernel, rfl⟩
theorem dUmp_recordState_7 : uD prog_1_method_21_code 7 (.aload_n 0) 1 8 := ⟨by decide +kernel, rfl⟩
theorem dUmp_recordState_8 : uD prog_1_method_21_code 8 (.getfield 147) 3 11 := ⟨by decide +kernel, rfl⟩
theorem dUmp_recordState_11 : uD prog_1_method_21_code 11 (.aload_n 0) 1 12 := ⟨by decide +kernel, rfl⟩
theorem dUmp_recordState_12 : uD prog_1_method_21_code 12 (.getfield 39) 3 15 := ⟨by decide +kernel, rfl⟩
theorem dUmp_recordState_15 : uD prog_1_method_21_code 15 (.arraylength) 1 16 := ⟨by decide +kernel, rfl⟩
theorem dUmp_recordState_16 : uB prog_1_method_21_code 16 (.if_icmp .ge) 19 49 := ⟨33, by decide +kernel, rfl, by decide⟩
theorem dUmp_recordState_19 : uD prog_1_method_21_code 19 (.aload_n 0) 1 20 := ⟨by decide +kernel, rfl⟩
theorem dUmp_recordState_20 : uD prog_1_method_21_code 20 (.getfield 147) 3 23 := ⟨by decide +kernel, rfl⟩
theorem dUmp_recordState_23 : uB prog_1_method_21_code 23 (.ifCond .lt) 26 49 := ⟨26, by decide +kernel, rfl, by decide⟩
theorem dUmp_recordState_26 : uD prog_1_method_21_code 26 (.aload_n 0) 1 27 := ⟨by decide +kernel, rfl⟩
theorem dUmp_recordState_27 : uD prog_1_method_21_code 27 (.getfield 39) 3 30 := ⟨by decide +kernel, rfl⟩
theorem dUmp_recordState_30 : uD prog_1_method_21_code 30 (.aload_n 0) 1 31 := ⟨by decide +kernel, rfl⟩
theorem dUmp_recordState_31 : uD prog_1_method_21_code 31 (.getfield 147) 3 34 := ⟨by decide +kernel, rfl⟩
theorem dUmp_recordState_34 : uD prog_1_method_21_code 34 (.aaload) 1 35 := ⟨by decide +kernel, rfl⟩
theorem dUmp_recordState_35 : uD prog_1_method_21_code 35 (.astore_n 1) 1 36 := ⟨by decide +kernel, rfl⟩
theorem dUmp_recordState_36 : uD prog_1_method_21_code 36 (.aload_n 0) 1 37 := ⟨by decide +kernel, rfl⟩
theorem dUmp_recordState_37 : uD prog_1_method_21_code 37 (.dup) 1 38 := ⟨by decide +kernel, rfl⟩
theorem dUmp_recordState_38 : uD prog_1_method_21_code 38 (.getfield 147) 3 41 := ⟨by decide +kernel, rfl⟩
theorem dUmp_recordState_41 : uD prog_1_method_21_code 41 (.iconst 1) 1 42 := ⟨by decide +kernel, rfl⟩
theorem dUmp_recordState_42 : uD prog_1_method_21_code 42 (.iadd) 1 43 := ⟨by decide +kernel, rfl⟩
theorem dUmp_recordState_43 : uD prog_1_method_21_code 43 (.putfield 147) 3 46 := ⟨by decide +kernel, rfl⟩
theorem dUmp_recordState_46 : uB prog_1_method_21_code 46 .goto 49 93 := ⟨47, by decide +kernel, rfl, by decide⟩
theorem dUmp_recordState_49 : uD prog_1_method_21_code 49 (.iconst 1) 1 50 := ⟨by decide +kernel, rfl⟩
theorem dUmp_recordState_50 : uD prog_1_method_21_code 50 (.istore_n 2) 1 51 := ⟨by decide +kernel, rfl⟩
theorem dUmp_recordState_51 : uD prog_1_method_21_code 51 (.iload_n 2) 1 52 := ⟨by decide +kernel, rfl⟩
theorem dUmp_recordState_52 : uD prog_1_method_21_code 52 (.aload_n 0) 1 53 := ⟨by decide +kernel, rfl⟩
theorem dUmp_recordState_53 : uD prog_1_method_21_code 53 (.getfield 39) 3 56 := ⟨by decide +kernel, rfl⟩
theorem dUmp_recordState_56 : uD prog_1_method_21_code 56 (.arraylength) 1 57 := ⟨by decide +kernel, rfl⟩
theorem dUmp_recordState_57 : uB prog_1_method_21_code 57 (.if_icmp .ge) 60 80 := ⟨23, by decide +kernel, rfl, by decide⟩
theorem dUmp_recordState_60 : uD prog_1_method_21_code 60 (.aload_n 0) 1 61 := ⟨by decide +kernel, rfl⟩
theorem dUmp_recordState_61 : uD prog_1_method_21_code 61 (.getfield 39) 3 64 := ⟨by decide +kernel, rfl⟩
theorem dUmp_recordState_64 : uD prog_1_method_21_code 64 (.iload_n 2) 1 65 := ⟨by decide +kernel, rfl⟩
theorem dUmp_recordState_65 : uD prog_1_method_21_code 65 (.iconst 1) 1 66 := ⟨by decide +kernel, rfl⟩
theorem dUmp_recordState_66 : uD prog_1_method_21_code 66 (.isub) 1 67 := ⟨by decide +kernel, rfl⟩
theorem dUmp_recordState_67 : uD prog_1_method_21_code 67 (.aload_n 0) 1 68 := ⟨by decide +kernel, rfl⟩
theorem dUmp_recordState_68 : uD prog_1_method_21_code 68 (.getfield 39) 3 71 := ⟨by decide +kernel, rfl⟩
theorem dUmp_recordState_71 : uD prog_1_method_21_code 71 (.iload_n 2) 1 72 := ⟨by decide +kernel, rfl⟩
theorem dUmp_recordState_72 : uD prog_1_method_21_code 72 (.aaload) 1 73 := ⟨by decide +kernel, rfl⟩
theorem dUmp_recordState_73 : uD prog_1_method_21_code 73 (.aastore) 1 74 := ⟨by decide +kernel, rfl⟩
theorem dUmp_recordState_74 : uD prog_1_method_21_code 74 (.iinc 2 1) 3 77 := ⟨by decide +kernel, rfl⟩
theorem dUmp_recordState_77 : uB prog_1_method_21_code 77 .goto 80 51 := ⟨-26, by decide +kernel, rfl, by decide⟩
theorem dUmp_recordState_80 : uD prog_1_method_21_code 80 (.aload_n 0) 1 81 := ⟨by decide +kernel, rfl⟩
theorem dUmp_recordState_81 : uD prog_1_method_21_code 81 (.getfield 39) 3 84 := ⟨by decide +kernel, rfl⟩
theorem dUmp_recordState_84 : uD prog_1_method_21_code 84 (.aload_n 0) 1 85 := ⟨by decide +kernel, rfl⟩
theorem dUmp_recordState_85 : uD prog_1_method_21_code 85 (.getfield 39) 3 88 := ⟨by decide +kernel, rfl⟩
theorem dUmp_recordState_88 : uD prog_1_method_21_code 88 (.arraylength) 1 89 := ⟨by decide +kernel, rfl⟩
theorem dUmp_recordState_89 : uD prog_1_method_21_code 89 (.iconst 1) 1 90 := ⟨by decide +kernel, rfl⟩
theorem dUmp_recordState_90 : uD prog_1_method_21_code 90 (.isub) 1 91 := ⟨by decide +kernel, rfl⟩
theorem dUmp_recordState_91 : uD prog_1_method_21_code 91 (.aload_n 1) 1 92 := ⟨by decide +kernel, rfl⟩
theorem dUmp_recordState_92 : uD prog_1_method_21_code 92 (.aastore) 1 93 := ⟨by decide +kernel, rfl⟩
theorem dUmp_recordState_93 : uD prog_1_method_21_code 93 (.aload_n 1) 1 94 := ⟨by decide +kernel, rfl⟩
theorem dUmp_recordState_94 : uD prog_1_method_21_code 94 (.aload_n 0) 1 95 := ⟨by decide +kernel, rfl⟩
theorem dUmp_recordState_95 : uD prog_1_method_21_code 95 (.getfield 35) 3 98 := ⟨by decide +kernel, rfl⟩
theorem dUmp_recordState_98 : uD prog_1_method_21_code 98 (.invokevirtual 150) 3 101 := ⟨by decide +kernel, rfl⟩
theorem dUmp_recordState_101 : uD prog_1_method_21_code 101 (.return_) 1 102 := ⟨by decide +kernel, rfl⟩
theorem dUmp_packAnew_0 : uD prog_1_method_22_code 0 (.aload_n 0) 1 1 := ⟨by decide +kernel, rfl⟩
theorem dUmp_packAnew_1 : uD prog_1_method_22_code 1 (.getfield 49) 3 4 := ⟨by decide +kernel, rfl⟩
theorem dUmp_packAnew_4 : uD prog_1_method_22_code 4 (.invokevirtual 178) 3 7 := ⟨by decide +kernel, rfl⟩
theorem dUmp_packAnew_7 : uD prog_1_method_22_code 7 (.iconst 0) 1 8 := ⟨by decide +kernel, rfl⟩
theorem dUmp_packAnew_8 : uD prog_1_method_22_code 8 (.istore_n 1) 1 9 := ⟨by decide +kernel, rfl⟩
theorem dUmp_packAnew_9 : uD prog_1_method_22_code 9 (.iload_n 1) 1 10 := ⟨by decide +kernel, rfl⟩
theorem dUmp_packAnew_10 : uD prog_1_method_22_code 10 (.aload_n 0) 1 11 := ⟨by decide +kernel, rfl⟩
theorem dUmp_packAnew_11 : uD prog_1_method_22_code 11 (.getfield 35) 3 14 := ⟨by decide +kernel, rfl⟩
theorem dUmp_packAnew_14 : uD prog_1_method_22_code 14 (.getfield 98) 3 17 := ⟨by decide +kernel, rfl⟩
theorem dUmp_packAnew_17 : uB prog_1_method_22_code 17 (.if_icmp .ge) 20 46 := ⟨29, by decide +kernel, rfl, by decide⟩
theorem dUmp_packAnew_20 : uD prog_1_method_22_code 20 (.aload_n 0) 1 21 := ⟨by decide +kernel, rfl⟩
theorem dUmp_packAnew_21 : uD prog_1_method_22_code 21 (.getfield 49) 3 24 := ⟨by decide +kernel, rfl⟩
theorem dUmp_packAnew_24 : uD prog_1_method_22_code 24 (.aload_n 0) 1 25 := ⟨by decide +kernel, rfl⟩
theorem dUmp_packAnew_25 : uD prog_1_method_22_code 25 (.getfield 35) 3 28 := ⟨by decide +kernel, rfl⟩
theorem dUmp_packAnew_28 : uD prog_1_method_22_code 28 (.iload_n 1) 1 29 := ⟨by decide +kernel, rfl⟩
theorem dUmp_packAnew_29 : uD prog_1_method_22_code 29 (.invokevirtual 158) 3 32 := ⟨by decide +kernel, rfl⟩
theorem dUmp_packAnew_32 : uD prog_1_method_22_code 32 (.aload_n 0) 1 33 := ⟨by decide +kernel, rfl⟩
theorem dUmp_packAnew_33 : uD prog_1_method_22_code 33 (.iload_n 1) 1 34 := ⟨by decide +kernel, rfl⟩
theorem dUmp_packAnew_34 : uD prog_1_method_22_code 34 (.invokevirtual 101) 3 37 := ⟨by decide +kernel, rfl⟩
theorem dUmp_packAnew_37 : uD prog_1_method_22_code 37 (.invokevirtual 113) 3 40 := ⟨by decide +kernel, rfl⟩
theorem dUmp_packAnew_40 : uD prog_1_method_22_code 40 (.iinc 1 1) 3 43 := ⟨by decide +kernel, rfl⟩
theorem dUmp_packAnew_43 : uB prog_1_method_22_code 43 .goto 46 9 := ⟨-34, by decide +kernel, rfl, by decide⟩
theorem dUmp_packAnew_46 : uD prog_1_method_22_code 46 (.return_) 1 47 := ⟨by decide +kernel, rfl⟩
theorem dUmp_bitsOfAllPages_0 : uD prog_1_method_23_code 0 (.iconst 0) 1 1 := ⟨by decide +kernel, rfl⟩
theorem dUmp_bitsOfAllPages_1 : uD prog_1_method_23_code 1 (.istore_n 1) 1 2 := ⟨by decide +kernel, rfl⟩
theorem dUmp_bitsOfAllPages_2 : uD prog_1_method_23_code 2 (.iconst 0) 1 3 := ⟨by decide +kernel, rfl⟩
theorem dUmp_bitsOfAllPages_3 : uD prog_1_method_23_code 3 (.istore_n 2) 1 4 := ⟨by decide +kernel, rfl⟩
theorem dUmp_bitsOfAllPages_4 : uD prog_1_method_23_code 4 (.iload_n 2) 1 5 := ⟨by decide +kernel, rfl⟩
theorem dUmp_bitsOfAllPages_5 : uD prog_1_method_23_code 5 (.aload_n 0) 1 6 := ⟨by decide +kernel, rfl⟩
theorem dUmp_bitsOfAllPages_6 : uD prog_1_method_23_code 6 (.getfield 35) 3 9 := ⟨by decide +kernel, rfl⟩
theorem dUmp_bitsOfAllPages_9 : uD prog_1_method_23_code 9 (.getfield 98) 3 12 := ⟨by decide +kernel, rfl⟩
theorem dUmp_bitsOfAllPages_12 : uB prog_1_method_23_code 12 (.if_icmp .ge) 15 32 := ⟨20, by decide +kernel, rfl, by decide⟩
theorem dUmp_bitsOfAllPages_15 : uD prog_1_method_23_code 15 (.iload_n 1) 1 16 := ⟨by decide +kernel, rfl⟩
theorem dUmp_bitsOfAllPages_16 : uD prog_1_method_23_code 16 (.aload_n 0) 1 17 := ⟨by decide +kernel, rfl⟩
theorem dUmp_bitsOfAllPages_17 : uD prog_1_method_23_code 17 (.iload_n 2) 1 18 := ⟨by decide +kernel, rfl⟩
theorem dUmp_bitsOfAllPages_18 : uD prog_1_method_23_code 18 (.invokevirtual 101) 3 21 := ⟨by decide +kernel, rfl⟩
theorem dUmp_bitsOfAllPages_21 : uD prog_1_method_23_code 21 (.invokevirtual 117) 3 24 := ⟨by decide +kernel, rfl⟩
theorem dUmp_bitsOfAllPages_24 : uD prog_1_method_23_code 24 (.iadd) 1 25 := ⟨by decide +kernel, rfl⟩
theorem dUmp_bitsOfAllPages_25 : uD prog_1_method_23_code 25 (.istore_n 1) 1 26 := ⟨by decide +kernel, rfl⟩
theorem dUmp_bitsOfAllPages_26 : uD prog_1_method_23_code 26 (.iinc 2 1) 3 29 := ⟨by decide +kernel, rfl⟩
theorem dUmp_bitsOfAllPages_29 : uB prog_1_method_23_code 29 .goto 32 4 := ⟨-25, by decide +kernel, rfl, by decide⟩
theorem dUmp_bitsOfAllPages_32 : uD prog_1_method_23_code 32 (.iload_n 1) 1 33 := ⟨by decide +kernel, rfl⟩
theorem dUmp_bitsOfAllPages_33 : uD prog_1_method_23_code 33 (.ireturn) 1 34 := ⟨by decide +kernel, rfl⟩
theorem dUmp_codesOf_0 : uD prog_1_method_24_code 0 (.iload_n 1) 1 1 := ⟨by decide +kernel, rfl⟩
theorem dUmp_codesOf_1 : uB prog_1_method_24_code 1 (.ifCond .lt) 4 22 := ⟨21, by decide +kernel, rfl, by decide⟩
theorem dUmp_codesOf_4 : uD prog_1_method_24_code 4 (.iload_n 1) 1 5 := ⟨by decide +kernel, rfl⟩
theorem dUmp_codesOf_5 : uD prog_1_method_24_code 5 (.aload_n 0) 1 6 := ⟨by decide +kernel, rfl⟩
theorem dUmp_codesOf_6 : uD prog_1_method_24_code 6 (.getfield 55) 3 9 := ⟨by decide +kernel, rfl⟩
theorem dUmp_codesOf_9 : uD prog_1_method_24_code 9 (.arraylength) 1 10 := ⟨by decide +kernel, rfl⟩
theorem dUmp_codesOf_10 : uB prog_1_method_24_code 10 (.if_icmp .ge) 13 22 := ⟨12, by decide +kernel, rfl, by decide⟩
theorem dUmp_codesOf_13 : uD prog_1_method_24_code 13 (.aload_n 0) 1 14 := ⟨by decide +kernel, rfl⟩
theorem dUmp_codesOf_14 : uD prog_1_method_24_code 14 (.getfield 55) 3 17 := ⟨by decide +kernel, rfl⟩
theorem dUmp_codesOf_17 : uD prog_1_method_24_code 17 (.iload_n 1) 1 18 := ⟨by decide +kernel, rfl⟩
theorem dUmp_codesOf_18 : uD prog_1_method_24_code 18 (.aaload) 1 19 := ⟨by decide +kernel, rfl⟩
theorem dUmp_codesOf_19 : uB prog_1_method_24_code 19 .goto 22 26 := ⟨7, by decide +kernel, rfl, by decide⟩
theorem dUmp_codesOf_22 : uD prog_1_method_24_code 22 (.aload_n 0) 1 23 := ⟨by decide +kernel, rfl⟩
theorem dUmp_codesOf_23 : uD prog_1_method_24_code 23 (.getfield 63) 3 26 := ⟨by decide +kernel, rfl⟩
theorem dUmp_codesOf_26 : uD prog_1_method_24_code 26 (.areturn) 1 27 := ⟨by decide +kernel, rfl⟩
theorem dUmp_isName_0 : uD prog_1_method_25_code 0 (.iload_n 0) 1 1 := ⟨by decide +kernel, rfl⟩
theorem dUmp_isName_1 : uB prog_1_method_25_code 1 (.ifCond .lt) 4 14 := ⟨13, by decide +kernel, rfl, by decide⟩
theorem dUmp_isName_4 : uD prog_1_method_25_code 4 (.iload_n 0) 1 5 := ⟨by decide +kernel, rfl⟩
theorem dUmp_isName_5 : uD prog_1_method_25_code 5 (.bipush 6) 2 7 := ⟨by decide +kernel, rfl⟩
theorem dUmp_isName_7 : uB prog_1_method_25_code 7 (.if_icmp .ge) 10 14 := ⟨7, by decide +kernel, rfl, by decide⟩
theorem dUmp_isName_10 : uD prog_1_method_25_code 10 (.iconst 1) 1 11 := ⟨by decide +kernel, rfl⟩
theorem dUmp_isName_11 : uB prog_1_method_25_code 11 .goto 14 15 := ⟨4, by decide +kernel, rfl, by decide⟩
theorem dUmp_isName_14 : uD prog_1_method_25_code 14 (.iconst 0) 1 15 := ⟨by decide +kernel, rfl⟩
theorem dUmp_isName_15 : uD prog_1_method_25_code 15 (.ireturn) 1 16 := ⟨by decide +kernel, rfl⟩
theorem dUmp_isNameLetter_0 : uD prog_1_method_26_code 0 (.iload_n 0) 1 1 := ⟨by decide +kernel, rfl⟩
theorem dUmp_isNameLetter_1 : uD prog_1_method_26_code 1 (.bipush 97) 2 3 := ⟨by decide +kernel, rfl⟩
theorem dUmp_isNameLetter_3 : uB prog_1_method_26_code 3 (.if_icmp .lt) 6 16 := ⟨13, by decide +kernel, rfl, by decide⟩
theorem dUmp_isNameLetter_6 : uD prog_1_method_26_code 6 (.iload_n 0) 1 7 := ⟨by decide +kernel, rfl⟩
theorem dUmp_isNameLetter_7 : uD prog_1_method_26_code 7 (.bipush 102) 2 9 := ⟨by decide +kernel, rfl⟩
theorem dUmp_isNameLetter_9 : uB prog_1_method_26_code 9 (.if_icmp .gt) 12 16 := ⟨7, by decide +kernel, rfl, by decide⟩
theorem dUmp_isNameLetter_12 : uD prog_1_method_26_code 12 (.iconst 1) 1 13 := ⟨by decide +kernel, rfl⟩
theorem dUmp_isNameLetter_13 : uB prog_1_method_26_code 13 .goto 16 17 := ⟨4, by decide +kernel, rfl, by decide⟩
theorem dUmp_isNameLetter_16 : uD prog_1_method_26_code 16 (.iconst 0) 1 17 := ⟨by decide +kernel, rfl⟩
theorem dUmp_isNameLetter_17 : uD prog_1_method_26_code 17 (.ireturn) 1 18 := ⟨by decide +kernel, rfl⟩
theorem dInt_bitCount_0 : uD prog_12_method_49_code 0 (.iload_n 0) 1 1 := ⟨by decide +kernel, rfl⟩
theorem dInt_bitCount_1 : uD prog_12_method_49_code 1 (.iload_n 0) 1 2 := ⟨by decide +kernel, rfl⟩
theorem dInt_bitCount_2 : uD prog_12_method_49_code 2 (.iconst 1) 1 3 := ⟨by decide +kernel, rfl⟩
theorem dInt_bitCount_3 : uD prog_12_method_49_code 3 (.iushr) 1 4 := ⟨by decide +kernel, rfl⟩
theorem dInt_bitCount_4 : uD prog_12_method_49_code 4 (.ldc_w 265) 3 7 := ⟨by decide +kernel, rfl⟩
theorem dInt_bitCount_7 : uD prog_12_method_49_code 7 (.iand) 1 8 := ⟨by decide +kernel, rfl⟩
theorem dInt_bitCount_8 : uD prog_12_method_49_code 8 (.isub) 1 9 := ⟨by decide +kernel, rfl⟩
theorem dInt_bitCount_9 : uD prog_12_method_49_code 9 (.istore_n 0) 1 10 := ⟨by decide +kernel, rfl⟩
theorem dInt_bitCount_10 : uD prog_12_method_49_code 10 (.iload_n 0) 1 11 := ⟨by decide +kernel, rfl⟩
theorem dInt_bitCount_11 : uD prog_12_method_49_code 11 (.ldc_w 266) 3 14 := ⟨by decide +kernel, rfl⟩
theorem dInt_bitCount_14 : uD prog_12_method_49_code 14 (.iand) 1 15 := ⟨by decide +kernel, rfl⟩
theorem dInt_bitCount_15 : uD prog_12_method_49_code 15 (.iload_n 0) 1 16 := ⟨by decide +kernel, rfl⟩
theorem dInt_bitCount_16 : uD prog_12_method_49_code 16 (.iconst 2) 1 17 := ⟨by decide +kernel, rfl⟩
theorem dInt_bitCount_17 : uD prog_12_method_49_code 17 (.iushr) 1 18 := ⟨by decide +kernel, rfl⟩
theorem dInt_bitCount_18 : uD prog_12_method_49_code 18 (.ldc_w 266) 3 21 := ⟨by decide +kernel, rfl⟩
theorem dInt_bitCount_21 : uD prog_12_method_49_code 21 (.iand) 1 22 := ⟨by decide +kernel, rfl⟩
theorem dInt_bitCount_22 : uD prog_12_method_49_code 22 (.iadd) 1 23 := ⟨by decide +kernel, rfl⟩
theorem dInt_bitCount_23 : uD prog_12_method_49_code 23 (.istore_n 0) 1 24 := ⟨by decide +kernel, rfl⟩
theorem dInt_bitCount_24 : uD prog_12_method_49_code 24 (.iload_n 0) 1 25 := ⟨by decide +kernel, rfl⟩
theorem dInt_bitCount_25 : uD prog_12_method_49_code 25 (.iload_n 0) 1 26 := ⟨by decide +kernel, rfl⟩
theorem dInt_bitCount_26 : uD prog_12_method_49_code 26 (.iconst 4) 1 27 := ⟨by decide +kernel, rfl⟩
theorem dInt_bitCount_27 : uD prog_12_method_49_code 27 (.iushr) 1 28 := ⟨by decide +kernel, rfl⟩
theorem dInt_bitCount_28 : uD prog_12_method_49_code 28 (.iadd) 1 29 := ⟨by decide +kernel, rfl⟩
theorem dInt_bitCount_29 : uD prog_12_method_49_code 29 (.ldc_w 267) 3 32 := ⟨by decide +kernel, rfl⟩
theorem dInt_bitCount_32 : uD prog_12_method_49_code 32 (.iand) 1 33 := ⟨by decide +kernel, rfl⟩
theorem dInt_bitCount_33 : uD prog_12_method_49_code 33 (.istore_n 0) 1 34 := ⟨by decide +kernel, rfl⟩
theorem dInt_bitCount_34 : uD prog_12_method_49_code 34 (.iload_n 0) 1 35 := ⟨by decide +kernel, rfl⟩
theorem dInt_bitCount_35 : uD prog_12_method_49_code 35 (.iload_n 0) 1 36 := ⟨by decide +kernel, rfl⟩
theorem dInt_bitCount_36 : uD prog_12_method_49_code 36 (.bipush 8) 2 38 := ⟨by decide +kernel, rfl⟩
theorem dInt_bitCount_38 : uD prog_12_method_49_code 38 (.iushr) 1 39 := ⟨by decide +kernel, rfl⟩
theorem dInt_bitCount_39 : uD prog_12_method_49_code 39 (.iadd) 1 40 := ⟨by decide +kernel, rfl⟩
theorem dInt_bitCount_40 : uD prog_12_method_49_code 40 (.istore_n 0) 1 41 := ⟨by decide +kernel, rfl⟩
theorem dInt_bitCount_41 : uD prog_12_method_49_code 41 (.iload_n 0) 1 42 := ⟨by decide +kernel, rfl⟩
theorem dInt_bitCount_42 : uD prog_12_method_49_code 42 (.iload_n 0) 1 43 := ⟨by decide +kernel, rfl⟩
theorem dInt_bitCount_43 : uD prog_12_method_49_code 43 (.bipush 16) 2 45 := ⟨by decide +kernel, rfl⟩
theorem dInt_bitCount_45 : uD prog_12_method_49_code 45 (.iushr) 1 46 := ⟨by decide +kernel, rfl⟩
theorem dInt_bitCount_46 : uD prog_12_method_49_code 46 (.iadd) 1 47 := ⟨by decide +kernel, rfl⟩
theorem dInt_bitCount_47 : uD prog_12_method_49_code 47 (.istore_n 0) 1 48 := ⟨by decide +kernel, rfl⟩
theorem dInt_bitCount_48 : uD prog_12_method_49_code 48 (.iload_n 0) 1 49 := ⟨by decide +kernel, rfl⟩
theorem dInt_bitCount_49 : uD prog_12_method_49_code 49 (.bipush 63) 2 51 := ⟨by decide +kernel, rfl⟩
theorem dInt_bitCount_51 : uD prog_12_method_49_code 51 (.iand) 1 52 := ⟨by decide +kernel, rfl⟩
theorem dInt_bitCount_52 : uD prog_12_method_49_code 52 (.ireturn) 1 53 := ⟨by decide +kernel, rfl⟩
end
section
/-! decode rows of the reference -/
theorem dMod_init_0 : uD prog_11_method_1_code 0 (.aload_n 0) 1 1 := ⟨by decide +kernel, rfl⟩
theorem dMod_init_1 : uD prog_11_method_1_code 1 (.invokespecial 1) 3 4 := ⟨by decide +kernel, rfl⟩
theorem dMod_init_4 : uD prog_11_method_1_code 4 (.aload_n 0) 1 5 := ⟨by decide +kernel, rfl⟩
theorem dMod_init_5 : uD prog_11_method_1_code 5 (.sipush 649) 3 8 := ⟨by decide +kernel, rfl⟩
theorem dMod_init_8 : uD prog_11_method_1_code 8 (.newarray .int) 2 10 := ⟨by decide +kernel, rfl⟩
theorem dMod_init_10 : uD prog_11_method_1_code 10 (.putfield 7) 3 13 := ⟨by decide +kernel, rfl⟩
theorem dMod_init_13 : uD prog_11_method_1_code 13 (.aload_n 0) 1 14 := ⟨by decide +kernel, rfl⟩
theorem dMod_init_14 : uD prog_11_method_1_code 14 (.sipush 2596) 3 17 := ⟨by decide +kernel, rfl⟩
theorem dMod_init_17 : uD prog_11_method_1_code 17 (.newarray .int) 2 19 := ⟨by decide +kernel, rfl⟩
theorem dMod_init_19 : uD prog_11_method_1_code 19 (.putfield 13) 3 22 := ⟨by decide +kernel, rfl⟩
theorem dMod_init_22 : uD prog_11_method_1_code 22 (.aload_n 0) 1 23 := ⟨by decide +kernel, rfl⟩
theorem dMod_init_23 : uD prog_11_method_1_code 23 (.sipush 649) 3 26 := ⟨by decide +kernel, rfl⟩
theorem dMod_init_26 : uD prog_11_method_1_code 26 (.newarray .int) 2 28 := ⟨by decide +kernel, rfl⟩
theorem dMod_init_28 : uD prog_11_method_1_code 28 (.putfield 16) 3 31 := ⟨by decide +kernel, rfl⟩
theorem dMod_init_31 : uD prog_11_method_1_code 31 (.aload_n 0) 1 32 := ⟨by decide +kernel, rfl⟩
theorem dMod_init_32 : uD prog_11_method_1_code 32 (.bipush 100) 2 34 := ⟨by decide +kernel, rfl⟩
theorem dMod_init_34 : uD prog_11_method_1_code 34 (.newarray .int) 2 36 := ⟨by decide +kernel, rfl⟩
theorem dMod_init_36 : uD prog_11_method_1_code 36 (.putfield 19) 3 39 := ⟨by decide +kernel, rfl⟩
theorem dMod_init_39 : uD prog_11_method_1_code 39 (.aload_n 0) 1 40 := ⟨by decide +kernel, rfl⟩
theorem dMod_init_40 : uD prog_11_method_1_code 40 (.bipush 6) 2 42 := ⟨by decide +kernel, rfl⟩
theorem dMod_init_42 : uD prog_11_method_1_code 42 (.newarray .int) 2 44 := ⟨by decide +kernel, rfl⟩
theorem dMod_init_44 : uD prog_11_method_1_code 44 (.putfield 22) 3 47 := ⟨by decide +kernel, rfl⟩
theorem dMod_init_47 : uD prog_11_method_1_code 47 (.aload_n 0) 1 48 := ⟨by decide +kernel, rfl⟩
theorem dMod_init_48 : uD prog_11_method_1_code 48 (.bipush 6) 2 50 := ⟨by decide +kernel, rfl⟩
theorem dMod_init_50 : uD prog_11_method_1_code 50 (.newarray .int) 2 52 := ⟨by decide +kernel, rfl⟩
theorem dMod_init_52 : uD prog_11_method_1_code 52 (.putfield 25) 3 55 := ⟨by decide +kernel, rfl⟩
theorem dMod_init_55 : uD prog_11_method_1_code 55 (.aload_n 0) 1 56 := ⟨by decide +kernel, rfl⟩
theorem dMod_init_56 : uD prog_11_method_1_code 56 (.iconst 4) 1 57 := ⟨by decide +kernel, rfl⟩
theorem dMod_init_57 : uD prog_11_method_1_code 57 (.newarray .int) 2 59 := ⟨by decide +kernel, rfl⟩
theorem dMod_init_59 : uD prog_11_method_1_code 59 (.putfield 28) 3 62 := ⟨by decide +kernel, rfl⟩
theorem dMod_init_62 : uD prog_11_method_1_code 62 (.aload_n 0) 1 63 := ⟨by decide +kernel, rfl⟩
theorem dMod_init_63 : uD prog_11_method_1_code 63 (.sipush 520) 3 66 := ⟨by decide +kernel, rfl⟩
theorem dMod_init_66 : uD prog_11_method_1_code 66 (.newarray .int) 2 68 := ⟨by decide +kernel, rfl⟩
theorem dMod_init_68 : uD prog_11_method_1_code 68 (.putfield 31) 3 71 := ⟨by decide +kernel, rfl⟩
theorem dMod_init_71 : uD prog_11_method_1_code 71 (.aload_n 0) 1 72 := ⟨by decide +kernel, rfl⟩
theorem dMod_init_72 : uD prog_11_method_1_code 72 (.bipush 120) 2 74 := ⟨by decide +kernel, rfl⟩
theorem dMod_init_74 : uD prog_11_method_1_code 74 (.newarray .int) 2 76 := ⟨by decide +kernel, rfl⟩
theorem dMod_init_76 : uD prog_11_method_1_code 76 (.putfield 34) 3 79 := ⟨by decide +kernel, rfl⟩
theorem dMod_init_79 : uD prog_11_method_1_code 79 (.aload_n 0) 1 80 := ⟨by decide +kernel, rfl⟩
theorem dMod_init_80 : uD prog_11_method_1_code 80 (.bipush 120) 2 82 := ⟨by decide +kernel, rfl⟩
theorem dMod_init_82 : uD prog_11_method_1_code 82 (.newarray .int) 2 84 := ⟨by decide +kernel, rfl⟩
theorem dMod_init_84 : uD prog_11_method_1_code 84 (.putfield 37) 3 87 := ⟨by decide +kernel, rfl⟩
theorem dMod_init_87 : uD prog_11_method_1_code 87 (.aload_n 0) 1 88 := ⟨by decide +kernel, rfl⟩
theorem dMod_init_88 : uD prog_11_method_1_code 88 (.bipush 42) 2 90 := ⟨by decide +kernel, rfl⟩
theorem dMod_init_90 : uD prog_11_method_1_code 90 (.newarray .int) 2 92 := ⟨by decide +kernel, rfl⟩
theorem dMod_init_92 : uD prog_11_method_1_code 92 (.putfield 40) 3 95 := ⟨by decide +kernel, rfl⟩
theorem dMod_init_95 : uD prog_11_method_1_code 95 (.aload_n 0) 1 96 := ⟨by decide +kernel, rfl⟩
theorem dMod_init_96 : uD prog_11_method_1_code 96 (.bipush 7) 2 98 := ⟨by decide +kernel, rfl⟩
theorem dMod_init_98 : uD prog_11_method_1_code 98 (.newarray .int) 2 100 := ⟨by decide +kernel, rfl⟩
theorem dMod_init_100 : uD prog_11_method_1_code 100 (.putfield 43) 3 103 := ⟨by decide +kernel, rfl⟩
theorem dMod_init_103 : uD prog_11_method_1_code 103 (.aload_n 0) 1 104 := ⟨by decide +kernel, rfl⟩
theorem dMod_init_104 : uD prog_11_method_1_code 104 (.bipush 6) 2 106 := ⟨by decide +kernel, rfl⟩
theorem dMod_init_106 : uD prog_11_method_1_code 106 (.newarray .int) 2 108 := ⟨by decide +kernel, rfl⟩
theorem dMod_init_108 : uD prog_11_method_1_code 108 (.putfield 46) 3 111 := ⟨by decide +kernel, rfl⟩
theorem dMod_init_111 : uD prog_11_method_1_code 111 (.aload_n 0) 1 112 := ⟨by decide +kernel, rfl⟩
theorem dMod_init_112 : uD prog_11_method_1_code 112 (.bipush 24) 2 114 := ⟨by decide +kernel, rfl⟩
theorem dMod_init_114 : uD prog_11_method_1_code 114 (.newarray .int) 2 116 := ⟨by decide +kernel, rfl⟩
theorem dMod_init_116 : uD prog_11_method_1_code 116 (.putfield 49) 3 119 := ⟨by decide +kernel, rfl⟩
theorem dMod_init_119 : uD prog_11_method_1_code 119 (.aload_n 0) 1 120 := ⟨by decide +kernel, rfl⟩
theorem dMod_init_120 : uD prog_11_method_1_code 120 (.sipush 3600) 3 123 := ⟨by decide +kernel, rfl⟩
theorem dMod_init_123 : uD prog_11_method_1_code 123 (.newarray .int) 2 125 := ⟨by decide +kernel, rfl⟩
theorem dMod_init_125 : uD prog_11_method_1_code 125 (.putfield 52) 3 128 := ⟨by decide +kernel, rfl⟩
theorem dMod_init_128 : uD prog_11_method_1_code 128 (.aload_n 0) 1 129 := ⟨by decide +kernel, rfl⟩
theorem dMod_init_129 : uD prog_11_method_1_code 129 (.sipush 1600) 3 132 := ⟨by decide +kernel, rfl⟩
theorem dMod_init_132 : uD prog_11_method_1_code 132 (.newarray .int) 2 134 := ⟨by decide +kernel, rfl⟩
theorem dMod_init_134 : uD prog_11_method_1_code 134 (.putfield 55) 3 137 := ⟨by decide +kernel, rfl⟩
theorem dMod_init_137 : uD prog_11_method_1_code 137 (.aload_n 0) 1 138 := ⟨by decide +kernel, rfl⟩
theorem dMod_init_138 : uD prog_11_method_1_code 138 (.iconst 4) 1 139 := ⟨by decide +kernel, rfl⟩
theorem dMod_init_139 : uD prog_11_method_1_code 139 (.newarray .int) 2 141 := ⟨by decide +kernel, rfl⟩
theorem dMod_init_141 : uD prog_11_method_1_code 141 (.putfield 58) 3 144 := ⟨by decide +kernel, rfl⟩
theorem dMod_init_144 : uD prog_11_method_1_code 144 (.aload_n 0) 1 145 := ⟨by decide +kernel, rfl⟩
theorem dMod_init_145 : uD prog_11_method_1_code 145 (.bipush 100) 2 147 := ⟨by decide +kernel, rfl⟩
theorem dMod_init_147 : uD prog_11_method_1_code 147 (.newarray .char) 2 149 := ⟨by decide +kernel, rfl⟩
theorem dMod_init_149 : uD prog_11_method_1_code 149 (.putfield 61) 3 152 := ⟨by decide +kernel, rfl⟩
theorem dMod_init_152 : uD prog_11_method_1_code 152 (.aload_n 0) 1 153 := ⟨by decide +kernel, rfl⟩
theorem dMod_init_153 : uD prog_11_method_1_code 153 (.bipush 100) 2 155 := ⟨by decide +kernel, rfl⟩
theorem dMod_init_155 : uD prog_11_method_1_code 155 (.newarray .int) 2 157 := ⟨by decide +kernel, rfl⟩
theorem dMod_init_157 : uD prog_11_method_1_code 157 (.putfield 65) 3 160 := ⟨by decide +kernel, rfl⟩
theorem dMod_init_160 : uD prog_11_method_1_code 160 (.aload_n 0) 1 161 := ⟨by decide +kernel, rfl⟩
theorem dMod_init_161 : uD prog_11_method_1_code 161 (.bipush 100) 2 163 := ⟨by decide +kernel, rfl⟩
theorem dMod_init_163 : uD prog_11_method_1_code 163 (.newarray .int) 2 165 := ⟨by decide +kernel, rfl⟩
theorem dMod_init_165 : uD prog_11_method_1_code 165 (.putfield 68) 3 168 := ⟨by decide +kernel, rfl⟩
theorem dMod_init_168 : uD prog_11_method_1_code 168 (.return_) 1 169 := ⟨by decide +kernel, rfl⟩
theorem dMod_in_0 : uD prog_11_method_2_code 0 (.iload_n 0) 1 1 := ⟨by decide +kernel, rfl⟩
theorem dMod_in_1 : uD prog_11_method_2_code 1 (.iload_n 1) 1 2 := ⟨by decide +kernel, rfl⟩
theorem dMod_in_2 : uB prog_11_method_2_code 2 (.if_icmp .lt) 5 14 := ⟨12, by decide +kernel, rfl, by decide⟩
theorem dMod_in_5 : uD prog_11_method_2_code 5 (.iload_n 0) 1 6 := ⟨by decide +kernel, rfl⟩
theorem dMod_in_6 : uD prog_11_method_2_code 6 (.iload_n 2) 1 7 := ⟨by decide +kernel, rfl⟩
theorem dMod_in_7 : uB prog_11_method_2_code 7 (.if_icmp .gt) 10 14 := ⟨7, by decide +kernel, rfl, by decide⟩
theorem dMod_in_10 : uD prog_11_method_2_code 10 (.iconst 1) 1 11 := ⟨by decide +kernel, rfl⟩
theorem dMod_in_11 : uB prog_11_method_2_code 11 .goto 14 15 := ⟨4, by decide +kernel, rfl, by decide⟩
theorem dMod_in_14 : uD prog_11_method_2_code 14 (.iconst 0) 1 15 := ⟨by decide +kernel, rfl⟩
theorem dMod_in_15 : uD prog_11_method_2_code 15 (.ireturn) 1 16 := ⟨by decide +kernel, rfl⟩
theorem dMod_no_0 : uD prog_11_method_3_code 0 (.iload_n 1) 1 1 := ⟨by decide +kernel, rfl⟩
theorem dMod_no_1 : uD prog_11_method_3_code 1 (.iconst 0) 1 2 := ⟨by decide +kernel, rfl⟩
theorem dMod_no_2 : uD prog_11_method_3_code 2 (.aload_n 0) 1 3 := ⟨by decide +kernel, rfl⟩
theorem dMod_no_3 : uD prog_11_method_3_code 3 (.getfield 7) 3 6 := ⟨by decide +kernel, rfl⟩
theorem dMod_no_6 : uD prog_11_method_3_code 6 (.bipush 6) 2 8 := ⟨by decide +kernel, rfl⟩
theorem dMod_no_8 : uD prog_11_method_3_code 8 (.iaload) 1 9 := ⟨by decide +kernel, rfl⟩
theorem dMod_no_9 : uD prog_11_method_3_code 9 (.iconst 1) 1 10 := ⟨by decide +kernel, rfl⟩
theorem dMod_no_10 : uD prog_11_method_3_code 10 (.isub) 1 11 := ⟨by decide +kernel, rfl⟩
theorem dMod_no_11 : uD prog_11_method_3_code 11 (.invokestatic 71) 3 14 := ⟨by decide +kernel, rfl⟩
theorem dMod_no_14 : uB prog_11_method_3_code 14 (.ifCond .ne) 17 21 := ⟨7, by decide +kernel, rfl, by decide⟩
theorem dMod_no_17 : uD prog_11_method_3_code 17 (.iconst 1) 1 18 := ⟨by decide +kernel, rfl⟩
theorem dMod_no_18 : uB prog_11_method_3_code 18 .goto 21 22 := ⟨4, by decide +kernel, rfl, by decide⟩
theorem dMod_no_21 : uD prog_11_method_3_code 21 (.iconst 0) 1 22 := ⟨by decide +kernel, rfl⟩
theorem dMod_no_22 : uD prog_11_method_3_code 22 (.ireturn) 1 23 := ⟨by decide +kernel, rfl⟩
theorem dMod_noName_0 : uD prog_11_method_4_code 0 (.iload_n 0) 1 1 := ⟨by decide +kernel, rfl⟩
theorem dMod_noName_1 : uD prog_11_method_4_code 1 (.iconst 0) 1 2 := ⟨by decide +kernel, rfl⟩
theorem dMod_noName_2 : uD prog_11_method_4_code 2 (.iconst 5) 1 3 := ⟨by decide +kernel, rfl⟩
theorem dMod_noName_3 : uD prog_11_method_4_code 3 (.invokestatic 71) 3 6 := ⟨by decide +kernel, rfl⟩
theorem dMod_noName_6 : uB prog_11_method_4_code 6 (.ifCond .ne) 9 13 := ⟨7, by decide +kernel, rfl, by decide⟩
theorem dMod_noName_9 : uD prog_11_method_4_code 9 (.iconst 1) 1 10 := ⟨by decide +kernel, rfl⟩
theorem dMod_noName_10 : uB prog_11_method_4_code 10 .goto 13 14 := ⟨4, by decide +kernel, rfl, by decide⟩
theorem dMod_noName_13 : uD prog_11_method_4_code 13 (.iconst 0) 1 14 := ⟨by decide +kernel, rfl⟩
theorem dMod_noName_14 : uD prog_11_method_4_code 14 (.ireturn) 1 15 := ⟨by decide +kernel, rfl⟩
theorem dMod_record_0 : uD prog_11_method_5_code 0 (.aload_n 0) 1 1 := ⟨by decide +kernel, rfl⟩
theorem dMod_record_1 : uD prog_11_method_5_code 1 (.getfield 75) 3 4 := ⟨by decide +kernel, rfl⟩
theorem dMod_record_4 : uD prog_11_method_5_code 4 (.iconst 4) 1 5 := ⟨by decide +kernel, rfl⟩
theorem dMod_record_5 : uB prog_11_method_5_code 5 (.if_icmp .ne) 8 49 := ⟨44, by decide +kernel, rfl, by decide⟩
theorem dMod_record_8 : uD prog_11_method_5_code 8 (.iconst 0) 1 9 := ⟨by decide +kernel, rfl⟩
theorem dMod_record_9 : uD prog_11_method_5_code 9 (.istore_n 1) 1 10 := ⟨by decide +kernel, rfl⟩
theorem dMod_record_10 : uD prog_11_method_5_code 10 (.iload_n 1) 1 11 := ⟨by decide +kernel, rfl⟩
theorem dMod_record_11 : uD prog_11_method_5_code 11 (.sipush 1947) 3 14 := ⟨by decide +kernel, rfl⟩
theorem dMod_record_14 : uB prog_11_method_5_code 14 (.if_icmp .ge) 17 39 := ⟨25, by decide +kernel, rfl, by decide⟩
theorem dMod_record_17 : uD prog_11_method_5_code 17 (.aload_n 0) 1 18 := ⟨by decide +kernel, rfl⟩
theorem dMod_record_18 : uD prog_11_method_5_code 18 (.getfield 13) 3 21 := ⟨by decide +kernel, rfl⟩
theorem dMod_record_21 : uD prog_11_method_5_code 21 (.iload_n 1) 1 22 := ⟨by decide +kernel, rfl⟩
theorem dMod_record_22 : uD prog_11_method_5_code 22 (.aload_n 0) 1 23 := ⟨by decide +kernel, rfl⟩
theorem dMod_record_23 : uD prog_11_method_5_code 23 (.getfield 13) 3 26 := ⟨by decide +kernel, rfl⟩
theorem dMod_record_26 : uD prog_11_method_5_code 26 (.iload_n 1) 1 27 := ⟨by decide +kernel, rfl⟩
theorem dMod_record_27 : uD prog_11_method_5_code 27 (.sipush 649) 3 30 := ⟨by decide +kernel, rfl⟩
theorem dMod_record_30 : uD prog_11_method_5_code 30 (.iadd) 1 31 := ⟨by decide +kernel, rfl⟩
theorem dMod_record_31 : uD prog_11_method_5_code 31 (.iaload) 1 32 := ⟨by decide +kernel, rfl⟩
theorem dMod_record_32 : uD prog_11_method_5_code 32 (.iastore) 1 33 := ⟨by decide +kernel, rfl⟩
theorem dMod_record_33 : uD prog_11_method_5_code 33 (.iinc 1 1) 3 36 := ⟨by decide +kernel, rfl⟩
theorem dMod_record_36 : uB prog_11_method_5_code 36 .goto 39 10 := ⟨-26, by decide +kernel, rfl, by decide⟩
theorem dMod_record_39 : uD prog_11_method_5_code 39 (.aload_n 0) 1 40 := ⟨by decide +kernel, rfl⟩
theorem dMod_record_40 : uD prog_11_method_5_code 40 (.dup) 1 41 := ⟨by decide +kernel, rfl⟩
theorem dMod_record_41 : uD prog_11_method_5_code 41 (.getfield 75) 3 44 := ⟨by decide +kernel, rfl⟩
theorem dMod_record_44 : uD prog_11_method_5_code 44 (.iconst 1) 1 45 := ⟨by decide +kernel, rfl⟩
theorem dMod_record_45 : uD prog_11_method_5_code 45 (.isub) 1 46 := ⟨by decide +kernel, rfl⟩
theorem dMod_record_46 : uD prog_11_method_5_code 46 (.putfield 75) 3 49 := ⟨by decide +kernel, rfl⟩
theorem dMod_record_49 : uD prog_11_method_5_code 49 (.iconst 0) 1 50 := ⟨by decide +kernel, rfl⟩
theorem dMod_record_50 : uD prog_11_method_5_code 50 (.istore_n 1) 1 51 := ⟨by decide +kernel, rfl⟩
theorem dMod_record_51 : uD prog_11_method_5_code 51 (.iload_n 1) 1 52 := ⟨by decide +kernel, rfl⟩
theorem dMod_record_52 : uD prog_11_method_5_code 52 (.sipush 649) 3 55 := ⟨by decide +kernel, rfl⟩
theorem dMod_record_55 : uB prog_11_method_5_code 55 (.if_icmp .ge) 58 85 := ⟨30, by decide +kernel, rfl, by decide⟩
theorem dMod_record_58 : uD prog_11_method_5_code 58 (.aload_n 0) 1 59 := ⟨by decide +kernel, rfl⟩
theorem dMod_record_59 : uD prog_11_method_5_code 59 (.getfield 13) 3 62 := ⟨by decide +kernel, rfl⟩
theorem dMod_record_62 : uD prog_11_method_5_code 62 (.sipush 649) 3 65 := ⟨by decide +kernel, rfl⟩
theorem dMod_record_65 : uD prog_11_method_5_code 65 (.aload_n 0) 1 66 := ⟨by decide +kernel, rfl⟩
theorem dMod_record_66 : uD prog_11_method_5_code 66 (.getfield 75) 3 69 := ⟨by decide +kernel, rfl⟩
theorem dMod_record_69 : uD prog_11_method_5_code 69 (.imul) 1 70 := ⟨by decide +kernel, rfl⟩
theorem dMod_record_70 : uD prog_11_method_5_code 70 (.iload_n 1) 1 71 := ⟨by decide +kernel, rfl⟩
theorem dMod_record_71 : uD prog_11_method_5_code 71 (.iadd) 1 72 := ⟨by decide +kernel, rfl⟩
theorem dMod_record_72 : uD prog_11_method_5_code 72 (.aload_n 0) 1 73 := ⟨by decide +kernel, rfl⟩
theorem dMod_record_73 : uD prog_11_method_5_code 73 (.getfield 7) 3 76 := ⟨by decide +kernel, rfl⟩
theorem dMod_record_76 : uD prog_11_method_5_code 76 (.iload_n 1) 1 77 := ⟨by decide +kernel, rfl⟩
theorem dMod_record_77 : uD prog_11_method_5_code 77 (.iaload) 1 78 := ⟨by decide +kernel, rfl⟩
theorem dMod_record_78 : uD prog_11_method_5_code 78 (.iastore) 1 79 := ⟨by decide +kernel, rfl⟩
theorem dMod_record_79 : uD prog_11_method_5_code 79 (.iinc 1 1) 3 82 := ⟨by decide +kernel, rfl⟩
theorem dMod_record_82 : uB prog_11_method_5_code 82 .goto 85 51 := ⟨-31, by decide +kernel, rfl, by decide⟩
theorem dMod_record_85 : uD prog_11_method_5_code 85 (.aload_n 0) 1 86 := ⟨by decide +kernel, rfl⟩
theorem dMod_record_86 : uD prog_11_method_5_code 86 (.dup) 1 87 := ⟨by decide +kernel, rfl⟩
theorem dMod_record_87 : uD prog_11_method_5_code 87 (.getfield 75) 3 90 := ⟨by decide +kernel, rfl⟩
theorem dMod_record_90 : uD prog_11_method_5_code 90 (.iconst 1) 1 91 := ⟨by decide +kernel, rfl⟩
theorem dMod_record_91 : uD prog_11_method_5_code 91 (.iadd) 1 92 := ⟨by decide +kernel, rfl⟩
theorem dMod_record_92 : uD prog_11_method_5_code 92 (.putfield 75) 3 95 := ⟨by decide +kernel, rfl⟩
theorem dMod_record_95 : uD prog_11_method_5_code 95 (.return_) 1 96 := ⟨by decide +kernel, rfl⟩
theorem dMod_box_0 : uD prog_11_method_6_code 0 (.aload_n 0) 1 1 := ⟨by decide +kernel, rfl⟩
theorem dMod_box_1 : uD prog_11_method_6_code 1 (.getfield 31) 3 4 := ⟨by decide +kernel, rfl⟩
theorem dMod_box_4 : uD prog_11_method_6_code 4 (.bipush 13) 2 6 := ⟨by decide +kernel, rfl⟩
theorem dMod_box_6 : uD prog_11_method_6_code 6 (.iload_n 1) 1 7 := ⟨by decide +kernel, rfl⟩
theorem dMod_box_7 : uD prog_11_method_6_code 7 (.imul) 1 8 := ⟨by decide +kernel, rfl⟩
theorem dMod_box_8 : uD prog_11_method_6_code 8 (.iload_n 2) 1 9 := ⟨by decide +kernel, rfl⟩
theorem dMod_box_9 : uD prog_11_method_6_code 9 (.iadd) 1 10 := ⟨by decide +kernel, rfl⟩
theorem dMod_box_10 : uD prog_11_method_6_code 10 (.iaload) 1 11 := ⟨by decide +kernel, rfl⟩
theorem dMod_box_11 : uD prog_11_method_6_code 11 (.ireturn) 1 12 := ⟨by decide +kernel, rfl⟩
theorem dMod_boxes_0 : uD prog_11_method_7_code 0 (.aload_n 0) 1 1 := ⟨by decide +kernel, rfl⟩
theorem dMod_boxes_1 : uD prog_11_method_7_code 1 (.getfield 31) 3 4 := ⟨by decide +kernel, rfl⟩
theorem dMod_boxes_4 : uD prog_11_method_7_code 4 (.bipush 13) 2 6 := ⟨by decide +kernel, rfl⟩
theorem dMod_boxes_6 : uD prog_11_method_7_code 6 (.iload_n 1) 1 7 := ⟨by decide +kernel, rfl⟩
theorem dMod_boxes_7 : uD prog_11_method_7_code 7 (.imul) 1 8 := ⟨by decide +kernel, rfl⟩
theorem dMod_boxes_8 : uD prog_11_method_7_code 8 (.iload_n 2) 1 9 := ⟨by decide +kernel, rfl⟩
theorem dMod_boxes_9 : uD prog_11_method_7_code 9 (.iadd) 1 10 := ⟨by decide +kernel, rfl⟩
theorem dMod_boxes_10 : uD prog_11_method_7_code 10 (.iload_n 3) 1 11 := ⟨by decide +kernel, rfl⟩
theorem dMod_boxes_11 : uD prog_11_method_7_code 11 (.iastore) 1 12 := ⟨by decide +kernel, rfl⟩
theorem dMod_boxes_12 : uD prog_11_method_7_code 12 (.return_) 1 13 := ⟨by decide +kernel, rfl⟩
theorem dMod_fails_0 : uD prog_11_method_8_code 0 (.aload_n 0) 1 1 := ⟨by decide +kernel, rfl⟩
theorem dMod_fails_1 : uD prog_11_method_8_code 1 (.iload_n 1) 1 2 := ⟨by decide +kernel, rfl⟩
theorem dMod_fails_2 : uD prog_11_method_8_code 2 (.putfield 79) 3 5 := ⟨by decide +kernel, rfl⟩
theorem dMod_fails_5 : uD prog_11_method_8_code 5 (.aload_n 0) 1 6 := ⟨by decide +kernel, rfl⟩
theorem dMod_fails_6 : uD prog_11_method_8_code 6 (.iload_n 1) 1 7 := ⟨by decide +kernel, rfl⟩
theorem dMod_fails_7 : uD prog_11_method_8_code 7 (.aload_n 0) 1 8 := ⟨by decide +kernel, rfl⟩
theorem dMod_fails_8 : uD prog_11_method_8_code 8 (.getfield 82) 3 11 := ⟨by decide +kernel, rfl⟩
theorem dMod_fails_11 : uB prog_11_method_8_code 11 (.if_icmp .ne) 14 18 := ⟨7, by decide +kernel, rfl, by decide⟩
theorem dMod_fails_14 : uD prog_11_method_8_code 14 (.iconst 0) 1 15 := ⟨by decide +kernel, rfl⟩
theorem dMod_fails_15 : uB prog_11_method_8_code 15 .goto 18 19 := ⟨4, by decide +kernel, rfl, by decide⟩
theorem dMod_fails_18 : uD prog_11_method_8_code 18 (.iload_n 2) 1 19 := ⟨by decide +kernel, rfl⟩
theorem dMod_fails_19 : uD prog_11_method_8_code 19 (.putfield 85) 3 22 := ⟨by decide +kernel, rfl⟩
theorem dMod_fails_22 : uD prog_11_method_8_code 22 (.aload_n 0) 1 23 := ⟨by decide +kernel, rfl⟩
theorem dMod_fails_23 : uD prog_11_method_8_code 23 (.iload_n 1) 1 24 := ⟨by decide +kernel, rfl⟩
theorem dMod_fails_24 : uD prog_11_method_8_code 24 (.aload_n 0) 1 25 := ⟨by decide +kernel, rfl⟩
theorem dMod_fails_25 : uD prog_11_method_8_code 25 (.getfield 82) 3 28 := ⟨by decide +kernel, rfl⟩
theorem dMod_fails_28 : uB prog_11_method_8_code 28 (.if_icmp .ne) 31 36 := ⟨8, by decide +kernel, rfl, by decide⟩
theorem dMod_fails_31 : uD prog_11_method_8_code 31 (.bipush (-5)) 2 33 := ⟨by decide +kernel, rfl⟩
theorem dMod_fails_33 : uB prog_11_method_8_code 33 .goto 36 37 := ⟨4, by decide +kernel, rfl, by decide⟩
theorem dMod_fails_36 : uD prog_11_method_8_code 36 (.iload_n 3) 1 37 := ⟨by decide +kernel, rfl⟩
theorem dMod_fails_37 : uD prog_11_method_8_code 37 (.putfield 88) 3 40 := ⟨by decide +kernel, rfl⟩
theorem dMod_fails_40 : uD prog_11_method_8_code 40 (.iconst 0) 1 41 := ⟨by decide +kernel, rfl⟩
theorem dMod_fails_41 : uD prog_11_method_8_code 41 (.ireturn) 1 42 := ⟨by decide +kernel, rfl⟩
theorem dMod_isAt_0 : uD prog_11_method_9_code 0 (.iload_n 1) 1 1 := ⟨by decide +kernel, rfl⟩
theorem dMod_isAt_1 : uD prog_11_method_9_code 1 (.aload_n 0) 1 2 := ⟨by decide +kernel, rfl⟩
theorem dMod_isAt_2 : uD prog_11_method_9_code 2 (.getfield 82) 3 5 := ⟨by decide +kernel, rfl⟩
theorem dMod_isAt_5 : uB prog_11_method_9_code 5 (.if_icmp .ge) 8 26 := ⟨21, by decide +kernel, rfl, by decide⟩
theorem dMod_isAt_8 : uD prog_11_method_9_code 8 (.aload_n 0) 1 9 := ⟨by decide +kernel, rfl⟩
theorem dMod_isAt_9 : uD prog_11_method_9_code 9 (.getfield 19) 3 12 := ⟨by decide +kernel, rfl⟩
theorem dMod_isAt_12 : uD prog_11_method_9_code 12 (.iload_n 1) 1 13 := ⟨by decide +kernel, rfl⟩
theorem dMod_isAt_13 : uD prog_11_method_9_code 13 (.iaload) 1 14 := ⟨by decide +kernel, rfl⟩
theorem dMod_isAt_14 : uD prog_11_method_9_code 14 (.iload_n 2) 1 15 := ⟨by decide +kernel, rfl⟩
theorem dMod_isAt_15 : uD prog_11_method_9_code 15 (.iload_n 3) 1 16 := ⟨by decide +kernel, rfl⟩
theorem dMod_isAt_16 : uD prog_11_method_9_code 16 (.invokestatic 71) 3 19 := ⟨by decide +kernel, rfl⟩
theorem dMod_isAt_19 : uB prog_11_method_9_code 19 (.ifCond .eq) 22 26 := ⟨7, by decide +kernel, rfl, by decide⟩
theorem dMod_isAt_22 : uD prog_11_method_9_code 22 (.iconst 1) 1 23 := ⟨by decide +kernel, rfl⟩
theorem dMod_isAt_23 : uB prog_11_method_9_code 23 .goto 26 27 := ⟨4, by decide +kernel, rfl, by decide⟩
theorem dMod_isAt_26 : uD prog_11_method_9_code 26 (.iconst 0) 1 27 := ⟨by decide +kernel, rfl⟩
theorem dMod_isAt_27 : uD prog_11_method_9_code 27 (.ireturn) 1 28 := ⟨by decide +kernel, rfl⟩
theorem dMod_steps_0 : uD prog_11_method_10_code 0 (.aload_n 0) 1 1 := ⟨by decide +kernel, rfl⟩
theorem dMod_steps_1 : uD prog_11_method_10_code 1 (.getfield 34) 3 4 := ⟨by decide +kernel, rfl⟩
theorem dMod_steps_4 : uD prog_11_method_10_code 4 (.aload_n 0) 1 5 := ⟨by decide +kernel, rfl⟩
theorem dMod_steps_5 : uD prog_11_method_10_code 5 (.getfield 91) 3 8 := ⟨by decide +kernel, rfl⟩
theorem dMod_steps_8 : uD prog_11_method_10_code 8 (.iload_n 1) 1 9 := ⟨by decide +kernel, rfl⟩
theorem dMod_steps_9 : uD prog_11_method_10_code 9 (.iastore) 1 10 := ⟨by decide +kernel, rfl⟩
theorem dMod_steps_10 : uD prog_11_method_10_code 10 (.aload_n 0) 1 11 := ⟨by decide +kernel, rfl⟩
theorem dMod_steps_11 : uD prog_11_method_10_code 11 (.getfield 37) 3 14 := ⟨by decide +kernel, rfl⟩
theorem dMod_steps_14 : uD prog_11_method_10_code 14 (.aload_n 0) 1 15 := ⟨by decide +kernel, rfl⟩
theorem dMod_steps_15 : uD prog_11_method_10_code 15 (.getfield 91) 3 18 := ⟨by decide +kernel, rfl⟩
theorem dMod_steps_18 : uD prog_11_method_10_code 18 (.iload_n 2) 1 19 := ⟨by decide +kernel, rfl⟩
theorem dMod_steps_19 : uD prog_11_method_10_code 19 (.iastore) 1 20 := ⟨by decide +kernel, rfl⟩
theorem dMod_steps_20 : uD prog_11_method_10_code 20 (.aload_n 0) 1 21 := ⟨by decide +kernel, rfl⟩
theorem dMod_steps_21 : uD prog_11_method_10_code 21 (.dup) 1 22 := ⟨by decide +kernel, rfl⟩
theorem dMod_steps_22 : uD prog_11_method_10_code 22 (.getfield 91) 3 25 := ⟨by decide +kernel, rfl⟩
theorem dMod_steps_25 : uD prog_11_method_10_code 25 (.iconst 1) 1 26 := ⟨by decide +kernel, rfl⟩
theorem dMod_steps_26 : uD prog_11_method_10_code 26 (.iadd) 1 27 := ⟨by decide +kernel, rfl⟩
theorem dMod_steps_27 : uD prog_11_method_10_code 27 (.putfield 91) 3 30 := ⟨by decide +kernel, rfl⟩
theorem dMod_steps_30 : uD prog_11_method_10_code 30 (.return_) 1 31 := ⟨by decide +kernel, rfl⟩
theorem dMod_implies_0 : uD prog_11_method_11_code 0 (.iconst 1) 1 1 := ⟨by decide +kernel, rfl⟩
theorem dMod_implies_1 : uD prog_11_method_11_code 1 (.istore_n 3) 1 2 := ⟨by decide +kernel, rfl⟩
theorem dMod_implies_2 : uD prog_11_method_11_code 2 (.iload_n 3) 1 3 := ⟨by decide +kernel, rfl⟩
theorem dMod_implies_3 : uB prog_11_method_11_code 3 (.ifCond .eq) 6 116 := ⟨113, by decide +kernel, rfl, by decide⟩
theorem dMod_implies_6 : uD prog_11_method_11_code 6 (.aload_n 0) 1 7 := ⟨by decide +kernel, rfl⟩
theorem dMod_implies_7 : uD prog_11_method_11_code 7 (.getfield 94) 3 10 := ⟨by decide +kernel, rfl⟩
theorem dMod_implies_10 : uD prog_11_method_11_code 10 (.iconst 1) 1 11 := ⟨by decide +kernel, rfl⟩
theorem dMod_implies_11 : uB prog_11_method_11_code 11 (.if_icmp .le) 14 33 := ⟨22, by decide +kernel, rfl, by decide⟩
theorem dMod_implies_14 : uD prog_11_method_11_code 14 (.aload_n 0) 1 15 := ⟨by decide +kernel, rfl⟩
theorem dMod_implies_15 : uD prog_11_method_11_code 15 (.aload_n 0) 1 16 := ⟨by decide +kernel, rfl⟩
theorem dMod_implies_16 : uD prog_11_method_11_code 16 (.getfield 25) 3 19 := ⟨by decide +kernel, rfl⟩
theorem dMod_implies_19 : uD prog_11_method_11_code 19 (.aload_n 0) 1 20 := ⟨by decide +kernel, rfl⟩
theorem dMod_implies_20 : uD prog_11_method_11_code 20 (.getfield 94) 3 23 := ⟨by decide +kernel, rfl⟩
theorem dMod_implies_23 : uD prog_11_method_11_code 23 (.iconst 1) 1 24 := ⟨by decide +kernel, rfl⟩
theorem dMod_implies_24 : uD prog_11_method_11_code 24 (.isub) 1 25 := ⟨by decide +kernel, rfl⟩
theorem dMod_implies_25 : uD prog_11_method_11_code 25 (.iaload) 1 26 := ⟨by decide +kernel, rfl⟩
theorem dMod_implies_26 : uD prog_11_method_11_code 26 (.iconst 0) 1 27 := ⟨by decide +kernel, rfl⟩
theorem dMod_implies_27 : uD prog_11_method_11_code 27 (.invokevirtual 97) 3 30 := ⟨by decide +kernel, rfl⟩
theorem dMod_implies_30 : uB prog_11_method_11_code 30 .goto 33 35 := ⟨5, by decide +kernel, rfl, by decide⟩
theorem dMod_implies_33 : uD prog_11_method_11_code 33 (.bipush (-5)) 2 35 := ⟨by decide +kernel, rfl⟩
theorem dMod_implies_35 : uD prog_11_method_11_code 35 (.istore 4) 2 37 := ⟨by decide +kernel, rfl⟩
theorem dMod_implies_37 : uD prog_11_method_11_code 37 (.iload 4) 2 39 := ⟨by decide +kernel, rfl⟩
theorem dMod_implies_39 : uD prog_11_method_11_code 39 (.bipush (-5)) 2 41 := ⟨by decide +kernel, rfl⟩
theorem dMod_implies_41 : uB prog_11_method_11_code 41 (.if_icmp .eq) 44 73 := ⟨32, by decide +kernel, rfl, by decide⟩
theorem dMod_implies_44 : uD prog_11_method_11_code 44 (.aload_n 0) 1 45 := ⟨by decide +kernel, rfl⟩
theorem dMod_implies_45 : uD prog_11_method_11_code 45 (.getfield 22) 3 48 := ⟨by decide +kernel, rfl⟩
theorem dMod_implies_48 : uD prog_11_method_11_code 48 (.iload_n 1) 1 49 := ⟨by decide +kernel, rfl⟩
theorem dMod_implies_49 : uD prog_11_method_11_code 49 (.iaload) 1 50 := ⟨by decide +kernel, rfl⟩
theorem dMod_implies_50 : uD prog_11_method_11_code 50 (.iload 4) 2 52 := ⟨by decide +kernel, rfl⟩
theorem dMod_implies_52 : uD prog_11_method_11_code 52 (.ishr) 1 53 := ⟨by decide +kernel, rfl⟩
theorem dMod_implies_53 : uD prog_11_method_11_code 53 (.iconst 1) 1 54 := ⟨by decide +kernel, rfl⟩
theorem dMod_implies_54 : uD prog_11_method_11_code 54 (.iand) 1 55 := ⟨by decide +kernel, rfl⟩
theorem dMod_implies_55 : uD prog_11_method_11_code 55 (.iconst 1) 1 56 := ⟨by decide +kernel, rfl⟩
theorem dMod_implies_56 : uB prog_11_method_11_code 56 (.if_icmp .ne) 59 73 := ⟨17, by decide +kernel, rfl, by decide⟩
theorem dMod_implies_59 : uD prog_11_method_11_code 59 (.iload_n 2) 1 60 := ⟨by decide +kernel, rfl⟩
theorem dMod_implies_60 : uB prog_11_method_11_code 60 (.ifCond .eq) 63 69 := ⟨9, by decide +kernel, rfl, by decide⟩
theorem dMod_implies_63 : uD prog_11_method_11_code 63 (.iload 4) 2 65 := ⟨by decide +kernel, rfl⟩
theorem dMod_implies_65 : uD prog_11_method_11_code 65 (.iload_n 1) 1 66 := ⟨by decide +kernel, rfl⟩
theorem dMod_implies_66 : uB prog_11_method_11_code 66 (.if_icmp .eq) 69 73 := ⟨7, by decide +kernel, rfl, by decide⟩
theorem dMod_implies_69 : uD prog_11_method_11_code 69 (.iconst 1) 1 70 := ⟨by decide +kernel, rfl⟩
theorem dMod_implies_70 : uB prog_11_method_11_code 70 .goto 73 74 := ⟨4, by decide +kernel, rfl, by decide⟩
theorem dMod_implies_73 : uD prog_11_method_11_code 73 (.iconst 0) 1 74 := ⟨by decide +kernel, rfl⟩
theorem dMod_implies_74 : uD prog_11_method_11_code 74 (.istore_n 3) 1 75 := ⟨by decide +kernel, rfl⟩
theorem dMod_implies_75 : uD prog_11_method_11_code 75 (.iload_n 3) 1 76 := ⟨by decide +kernel, rfl⟩
theorem dMod_implies_76 : uB prog_11_method_11_code 76 (.ifCond .eq) 79 113 := ⟨37, by decide +kernel, rfl, by decide⟩
theorem dMod_implies_79 : uD prog_11_method_11_code 79 (.aload_n 0) 1 80 := ⟨by decide +kernel, rfl⟩
theorem dMod_implies_80 : uD prog_11_method_11_code 80 (.dup) 1 81 := ⟨by decide +kernel, rfl⟩
theorem dMod_implies_81 : uD prog_11_method_11_code 81 (.getfield 94) 3 84 := ⟨by decide +kernel, rfl⟩
theorem dMod_implies_84 : uD prog_11_method_11_code 84 (.iconst 1) 1 85 := ⟨by decide +kernel, rfl⟩
theorem dMod_implies_85 : uD prog_11_method_11_code 85 (.isub) 1 86 := ⟨by decide +kernel, rfl⟩
theorem dMod_implies_86 : uD prog_11_method_11_code 86 (.putfield 94) 3 89 := ⟨by decide +kernel, rfl⟩
theorem dMod_implies_89 : uD prog_11_method_11_code 89 (.aload_n 0) 1 90 := ⟨by decide +kernel, rfl⟩
theorem dMod_implies_90 : uD prog_11_method_11_code 90 (.iconst 3) 1 91 := ⟨by decide +kernel, rfl⟩
theorem dMod_implies_91 : uD prog_11_method_11_code 91 (.aload_n 0) 1 92 := ⟨by decide +kernel, rfl⟩
theorem dMod_implies_92 : uD prog_11_method_11_code 92 (.getfield 25) 3 95 := ⟨by decide +kernel, rfl⟩
theorem dMod_implies_95 : uD prog_11_method_11_code 95 (.aload_n 0) 1 96 := ⟨by decide +kernel, rfl⟩
theorem dMod_implies_96 : uD prog_11_method_11_code 96 (.getfield 94) 3 99 := ⟨by decide +kernel, rfl⟩
theorem dMod_implies_99 : uD prog_11_method_11_code 99 (.iaload) 1 100 := ⟨by decide +kernel, rfl⟩
theorem dMod_implies_100 : uD prog_11_method_11_code 100 (.invokevirtual 101) 3 103 := ⟨by decide +kernel, rfl⟩
theorem dMod_implies_103 : uD prog_11_method_11_code 103 (.aload_n 0) 1 104 := ⟨by decide +kernel, rfl⟩
theorem dMod_implies_104 : uD prog_11_method_11_code 104 (.dup) 1 105 := ⟨by decide +kernel, rfl⟩
theorem dMod_implies_105 : uD prog_11_method_11_code 105 (.getfield 104) 3 108 := ⟨by decide +kernel, rfl⟩
theorem dMod_implies_108 : uD prog_11_method_11_code 108 (.iconst 1) 1 109 := ⟨by decide +kernel, rfl⟩
theorem dMod_implies_109 : uD prog_11_method_11_code 109 (.iadd) 1 110 := ⟨by decide +kernel, rfl⟩
theorem dMod_implies_110 : uD prog_11_method_11_code 110 (.putfield 104) 3 113 := ⟨by decide +kernel, rfl⟩
theorem dMod_implies_113 : uB prog_11_method_11_code 113 .goto 116 2 := ⟨-111, by decide +kernel, rfl, by decide⟩
theorem dMod_implies_116 : uD prog_11_method_11_code 116 (.return_) 1 117 := ⟨by decide +kernel, rfl⟩
theorem dMod_rankOf_0 : uD prog_11_method_12_code 0 (.iconst 0) 1 1 := ⟨by decide +kernel, rfl⟩
theorem dMod_rankOf_1 : uD prog_11_method_12_code 1 (.istore_n 3) 1 2 := ⟨by decide +kernel, rfl⟩
theorem dMod_rankOf_2 : uD prog_11_method_12_code 2 (.iload_n 0) 1 3 := ⟨by decide +kernel, rfl⟩
theorem dMod_rankOf_3 : uD prog_11_method_12_code 3 (.istore 4) 2 5 := ⟨by decide +kernel, rfl⟩
theorem dMod_rankOf_5 : uD prog_11_method_12_code 5 (.iconst 0) 1 6 := ⟨by decide +kernel, rfl⟩
theorem dMod_rankOf_6 : uD prog_11_method_12_code 6 (.istore 5) 2 8 := ⟨by decide +kernel, rfl⟩
theorem dMod_rankOf_8 : uD prog_11_method_12_code 8 (.iload 5) 2 10 := ⟨by decide +kernel, rfl⟩
theorem dMod_rankOf_10 : uD prog_11_method_12_code 10 (.iload_n 2) 1 11 := ⟨by decide +kernel, rfl⟩
theorem dMod_rankOf_11 : uB prog_11_method_12_code 11 (.if_icmp .ge) 14 108 := ⟨97, by decide +kernel, rfl, by decide⟩
theorem dMod_rankOf_14 : uD prog_11_method_12_code 14 (.iload_n 1) 1 15 := ⟨by decide +kernel, rfl⟩
theorem dMod_rankOf_15 : uD prog_11_method_12_code 15 (.iconst 2) 1 16 := ⟨by decide +kernel, rfl⟩
theorem dMod_rankOf_16 : uD prog_11_method_12_code 16 (.iload 5) 2 18 := ⟨by decide +kernel, rfl⟩
theorem dMod_rankOf_18 : uD prog_11_method_12_code 18 (.imul) 1 19 := ⟨by decide +kernel, rfl⟩
theorem dMod_rankOf_19 : uD prog_11_method_12_code 19 (.ishr) 1 20 := ⟨by decide +kernel, rfl⟩
theorem dMod_rankOf_20 : uD prog_11_method_12_code 20 (.iconst 3) 1 21 := ⟨by decide +kernel, rfl⟩
theorem dMod_rankOf_21 : uD prog_11_method_12_code 21 (.iand) 1 22 := ⟨by decide +kernel, rfl⟩
theorem dMod_rankOf_22 : uD prog_11_method_12_code 22 (.istore 6) 2 24 := ⟨by decide +kernel, rfl⟩
theorem dMod_rankOf_24 : uD prog_11_method_12_code 24 (.iconst 0) 1 25 := ⟨by decide +kernel, rfl⟩
theorem dMod_rankOf_25 : uD prog_11_method_12_code 25 (.istore 7) 2 27 := ⟨by decide +kernel, rfl⟩
theorem dMod_rankOf_27 : uD prog_11_method_12_code 27 (.iconst 0) 1 28 := ⟨by decide +kernel, rfl⟩
theorem dMod_rankOf_28 : uD prog_11_method_12_code 28 (.istore 8) 2 30 := ⟨by decide +kernel, rfl⟩
theorem dMod_rankOf_30 : uD prog_11_method_12_code 30 (.iload 8) 2 32 := ⟨by decide +kernel, rfl⟩
theorem dMod_rankOf_32 : uD prog_11_method_12_code 32 (.iload 6) 2 34 := ⟨by decide +kernel, rfl⟩
theorem dMod_rankOf_34 : uB prog_11_method_12_code 34 (.if_icmp .ge) 37 55 := ⟨21, by decide +kernel, rfl, by decide⟩
theorem dMod_rankOf_37 : uD prog_11_method_12_code 37 (.iload 7) 2 39 := ⟨by decide +kernel, rfl⟩
theorem dMod_rankOf_39 : uD prog_11_method_12_code 39 (.iload 4) 2 41 := ⟨by decide +kernel, rfl⟩
theorem dMod_rankOf_41 : uD prog_11_method_12_code 41 (.iload 8) 2 43 := ⟨by decide +kernel, rfl⟩
theorem dMod_rankOf_43 : uD prog_11_method_12_code 43 (.ishr) 1 44 := ⟨by decide +kernel, rfl⟩
theorem dMod_rankOf_44 : uD prog_11_method_12_code 44 (.iconst 1) 1 45 := ⟨by decide +kernel, rfl⟩
theorem dMod_rankOf_45 : uD prog_11_method_12_code 45 (.iand) 1 46 := ⟨by decide +kernel, rfl⟩
theorem dMod_rankOf_46 : uD prog_11_method_12_code 46 (.iadd) 1 47 := ⟨by decide +kernel, rfl⟩
theorem dMod_rankOf_47 : uD prog_11_method_12_code 47 (.istore 7) 2 49 := ⟨by decide +kernel, rfl⟩
theorem dMod_rankOf_49 : uD prog_11_method_12_code 49 (.iinc 8 1) 3 52 := ⟨by decide +kernel, rfl⟩
theorem dMod_rankOf_52 : uB prog_11_method_12_code 52 .goto 55 30 := ⟨-22, by decide +kernel, rfl, by decide⟩
theorem dMod_rankOf_55 : uD prog_11_method_12_code 55 (.iconst 1) 1 56 := ⟨by decide +kernel, rfl⟩
theorem dMod_rankOf_56 : uD prog_11_method_12_code 56 (.istore 8) 2 58 := ⟨by decide +kernel, rfl⟩
theorem dMod_rankOf_58 : uD prog_11_method_12_code 58 (.iconst 2) 1 59 := ⟨by decide +kernel, rfl⟩
theorem dMod_rankOf_59 : uD prog_11_method_12_code 59 (.istore 9) 2 61 := ⟨by decide +kernel, rfl⟩
theorem dMod_rankOf_61 : uD prog_11_method_12_code 61 (.iload 9) 2 63 := ⟨by decide +kernel, rfl⟩
theorem dMod_rankOf_63 : uD prog_11_method_12_code 63 (.iload_n 2) 1 64 := ⟨by decide +kernel, rfl⟩
theorem dMod_rankOf_64 : uD prog_11_method_12_code 64 (.iload 5) 2 66 := ⟨by decide +kernel, rfl⟩
theorem dMod_rankOf_66 : uD prog_11_method_12_code 66 (.isub) 1 67 := ⟨by decide +kernel, rfl⟩
theorem dMod_rankOf_67 : uB prog_11_method_12_code 67 (.if_icmp .ge) 70 83 := ⟨16, by decide +kernel, rfl, by decide⟩
theorem dMod_rankOf_70 : uD prog_11_method_12_code 70 (.iload 8) 2 72 := ⟨by decide +kernel, rfl⟩
theorem dMod_rankOf_72 : uD prog_11_method_12_code 72 (.iload 9) 2 74 := ⟨by decide +kernel, rfl⟩
theorem dMod_rankOf_74 : uD prog_11_method_12_code 74 (.imul) 1 75 := ⟨by decide +kernel, rfl⟩
theorem dMod_rankOf_75 : uD prog_11_method_12_code 75 (.istore 8) 2 77 := ⟨by decide +kernel, rfl⟩
theorem dMod_rankOf_77 : uD prog_11_method_12_code 77 (.iinc 9 1) 3 80 := ⟨by decide +kernel, rfl⟩
theorem dMod_rankOf_80 : uB prog_11_method_12_code 80 .goto 83 61 := ⟨-19, by decide +kernel, rfl, by decide⟩
theorem dMod_rankOf_83 : uD prog_11_method_12_code 83 (.iload_n 3) 1 84 := ⟨by decide +kernel, rfl⟩
theorem dMod_rankOf_84 : uD prog_11_method_12_code 84 (.iload 7) 2 86 := ⟨by decide +kernel, rfl⟩
theorem dMod_rankOf_86 : uD prog_11_method_12_code 86 (.iload 8) 2 88 := ⟨by decide +kernel, rfl⟩
theorem dMod_rankOf_88 : uD prog_11_method_12_code 88 (.imul) 1 89 := ⟨by decide +kernel, rfl⟩
theorem dMod_rankOf_89 : uD prog_11_method_12_code 89 (.iadd) 1 90 := ⟨by decide +kernel, rfl⟩
theorem dMod_rankOf_90 : uD prog_11_method_12_code 90 (.istore_n 3) 1 91 := ⟨by decide +kernel, rfl⟩
theorem dMod_rankOf_91 : uD prog_11_method_12_code 91 (.iload 4) 2 93 := ⟨by decide +kernel, rfl⟩
theorem dMod_rankOf_93 : uD prog_11_method_12_code 93 (.iconst 1) 1 94 := ⟨by decide +kernel, rfl⟩
theorem dMod_rankOf_94 : uD prog_11_method_12_code 94 (.iload 6) 2 96 := ⟨by decide +kernel, rfl⟩
theorem dMod_rankOf_96 : uD prog_11_method_12_code 96 (.ishl) 1 97 := ⟨by decide +kernel, rfl⟩
theorem dMod_rankOf_97 : uD prog_11_method_12_code 97 (.iconst (-1)) 1 98 := ⟨by decide +kernel, rfl⟩
theorem dMod_rankOf_98 : uD prog_11_method_12_code 98 (.ixor) 1 99 := ⟨by decide +kernel, rfl⟩
theorem dMod_rankOf_99 : uD prog_11_method_12_code 99 (.iand) 1 100 := ⟨by decide +kernel, rfl⟩
theorem dMod_rankOf_100 : uD prog_11_method_12_code 100 (.istore 4) 2 102 := ⟨by decide +kernel, rfl⟩
theorem dMod_rankOf_102 : uD prog_11_method_12_code 102 (.iinc 5 1) 3 105 := ⟨by decide +kernel, rfl⟩
theorem dMod_rankOf_105 : uB prog_11_method_12_code 105 .goto 108 8 := ⟨-97, by decide +kernel, rfl, by decide⟩
theorem dMod_rankOf_108 : uD prog_11_method_12_code 108 (.iload_n 3) 1 109 := ⟨by decide +kernel, rfl⟩
theorem dMod_rankOf_109 : uD prog_11_method_12_code 109 (.ireturn) 1 110 := ⟨by decide +kernel, rfl⟩
theorem dMod_readNotes_0 : uD prog_11_method_13_code 0 (.iload_n 2) 1 1 := ⟨by decide +kernel, rfl⟩
theorem dMod_readNotes_1 : uD prog_11_method_13_code 1 (.istore_n 3) 1 2 := ⟨by decide +kernel, rfl⟩
theorem dMod_readNotes_2 : uD prog_11_method_13_code 2 (.iconst 0) 1 3 := ⟨by decide +kernel, rfl⟩
theorem dMod_readNotes_3 : uD prog_11_method_13_code 3 (.istore 4) 2 5 := ⟨by decide +kernel, rfl⟩
theorem dMod_readNotes_5 : uD prog_11_method_13_code 5 (.iconst 0) 1 6 := ⟨by decide +kernel, rfl⟩
theorem dMod_readNotes_6 : uD prog_11_method_13_code 6 (.istore 5) 2 8 := ⟨by decide +kernel, rfl⟩
theorem dMod_readNotes_8 : uD prog_11_method_13_code 8 (.aload_n 0) 1 9 := ⟨by decide +kernel, rfl⟩
theorem dMod_readNotes_9 : uD prog_11_method_13_code 9 (.iload_n 3) 1 10 := ⟨by decide +kernel, rfl⟩
theorem dMod_readNotes_10 : uD prog_11_method_13_code 10 (.bipush 32) 2 12 := ⟨by decide +kernel, rfl⟩
theorem dMod_readNotes_12 : uD prog_11_method_13_code 12 (.bipush 32) 2 14 := ⟨by decide +kernel, rfl⟩
theorem dMod_readNotes_14 : uD prog_11_method_13_code 14 (.invokevirtual 107) 3 17 := ⟨by decide +kernel, rfl⟩
theorem dMod_readNotes_17 : uB prog_11_method_13_code 17 (.ifCond .eq) 20 226 := ⟨209, by decide +kernel, rfl, by decide⟩
theorem dMod_readNotes_20 : uD prog_11_method_13_code 20 (.aload_n 0) 1 21 := ⟨by decide +kernel, rfl⟩
theorem dMod_readNotes_21 : uD prog_11_method_13_code 21 (.iload_n 3) 1 22 := ⟨by decide +kernel, rfl⟩
theorem dMod_readNotes_22 : uD prog_11_method_13_code 22 (.iconst 1) 1 23 := ⟨by decide +kernel, rfl⟩
theorem dMod_readNotes_23 : uD prog_11_method_13_code 23 (.iadd) 1 24 := ⟨by decide +kernel, rfl⟩
theorem dMod_readNotes_24 : uD prog_11_method_13_code 24 (.bipush 119) 2 26 := ⟨by decide +kernel, rfl⟩
theorem dMod_readNotes_26 : uD prog_11_method_13_code 26 (.bipush 122) 2 28 := ⟨by decide +kernel, rfl⟩
theorem dMod_readNotes_28 : uD prog_11_method_13_code 28 (.invokevirtual 107) 3 31 := ⟨by decide +kernel, rfl⟩
theorem dMod_readNotes_31 : uB prog_11_method_13_code 31 (.ifCond .ne) 34 48 := ⟨17, by decide +kernel, rfl, by decide⟩
theorem dMod_readNotes_34 : uD prog_11_method_13_code 34 (.aload_n 0) 1 35 := ⟨by decide +kernel, rfl⟩
theorem dMod_readNotes_35 : uD prog_11_method_13_code 35 (.iload_n 3) 1 36 := ⟨by decide +kernel, rfl⟩
theorem dMod_readNotes_36 : uD prog_11_method_13_code 36 (.iconst 1) 1 37 := ⟨by decide +kernel, rfl⟩
theorem dMod_readNotes_37 : uD prog_11_method_13_code 37 (.iadd) 1 38 := ⟨by decide +kernel, rfl⟩
theorem dMod_readNotes_38 : uD prog_11_method_13_code 38 (.iconst 1) 1 39 := ⟨by decide +kernel, rfl⟩
theorem dMod_readNotes_39 : uD prog_11_method_13_code 39 (.bipush (-5)) 2 41 := ⟨by decide +kernel, rfl⟩
theorem dMod_readNotes_41 : uD prog_11_method_13_code 41 (.invokevirtual 110) 3 44 := ⟨by decide +kernel, rfl⟩
theorem dMod_readNotes_44 : uD prog_11_method_13_code 44 (.pop) 1 45 := ⟨by decide +kernel, rfl⟩
theorem dMod_readNotes_45 : uD prog_11_method_13_code 45 (.bipush (-5)) 2 47 := ⟨by decide +kernel, rfl⟩
theorem dMod_readNotes_47 : uD prog_11_method_13_code 47 (.ireturn) 1 48 := ⟨by decide +kernel, rfl⟩
theorem dMod_readNotes_48 : uD prog_11_method_13_code 48 (.aload_n 0) 1 49 := ⟨by decide +kernel, rfl⟩
theorem dMod_readNotes_49 : uD prog_11_method_13_code 49 (.getfield 19) 3 52 := ⟨by decide +kernel, rfl⟩
theorem dMod_readNotes_52 : uD prog_11_method_13_code 52 (.iload_n 3) 1 53 := ⟨by decide +kernel, rfl⟩
theorem dMod_readNotes_53 : uD prog_11_method_13_code 53 (.iconst 1) 1 54 := ⟨by decide +kernel, rfl⟩
theorem dMod_readNotes_54 : uD prog_11_method_13_code 54 (.iadd) 1 55 := ⟨by decide +kernel, rfl⟩
theorem dMod_readNotes_55 : uD prog_11_method_13_code 55 (.iaload) 1 56 := ⟨by decide +kernel, rfl⟩
theorem dMod_readNotes_56 : uD prog_11_method_13_code 56 (.bipush 119) 2 58 := ⟨by decide +kernel, rfl⟩
theorem dMod_readNotes_58 : uD prog_11_method_13_code 58 (.isub) 1 59 := ⟨by decide +kernel, rfl⟩
theorem dMod_readNotes_59 : uD prog_11_method_13_code 59 (.istore 6) 2 61 := ⟨by decide +kernel, rfl⟩
theorem dMod_readNotes_61 : uD prog_11_method_13_code 61 (.aload_n 0) 1 62 := ⟨by decide +kernel, rfl⟩
theorem dMod_readNotes_62 : uD prog_11_method_13_code 62 (.iload_n 1) 1 63 := ⟨by decide +kernel, rfl⟩
theorem dMod_readNotes_63 : uD prog_11_method_13_code 63 (.iconst 3) 1 64 := ⟨by decide +kernel, rfl⟩
theorem dMod_readNotes_64 : uD prog_11_method_13_code 64 (.invokevirtual 97) 3 67 := ⟨by decide +kernel, rfl⟩
theorem dMod_readNotes_67 : uD prog_11_method_13_code 67 (.iload 6) 2 69 := ⟨by decide +kernel, rfl⟩
theorem dMod_readNotes_69 : uD prog_11_method_13_code 69 (.ishr) 1 70 := ⟨by decide +kernel, rfl⟩
theorem dMod_readNotes_70 : uD prog_11_method_13_code 70 (.iconst 1) 1 71 := ⟨by decide +kernel, rfl⟩
theorem dMod_readNotes_71 : uD prog_11_method_13_code 71 (.iand) 1 72 := ⟨by decide +kernel, rfl⟩
theorem dMod_readNotes_72 : uD prog_11_method_13_code 72 (.iconst 1) 1 73 := ⟨by decide +kernel, rfl⟩
theorem dMod_readNotes_73 : uB prog_11_method_13_code 73 (.if_icmp .ne) 76 95 := ⟨22, by decide +kernel, rfl, by decide⟩
theorem dMod_readNotes_76 : uD prog_11_method_13_code 76 (.aload_n 0) 1 77 := ⟨by decide +kernel, rfl⟩
theorem dMod_readNotes_77 : uD prog_11_method_13_code 77 (.iload_n 3) 1 78 := ⟨by decide +kernel, rfl⟩
theorem dMod_readNotes_78 : uD prog_11_method_13_code 78 (.iconst 1) 1 79 := ⟨by decide +kernel, rfl⟩
theorem dMod_readNotes_79 : uD prog_11_method_13_code 79 (.iadd) 1 80 := ⟨by decide +kernel, rfl⟩
theorem dMod_readNotes_80 : uD prog_11_method_13_code 80 (.iconst 2) 1 81 := ⟨by decide +kernel, rfl⟩
theorem dMod_readNotes_81 : uD prog_11_method_13_code 81 (.aload_n 0) 1 82 := ⟨by decide +kernel, rfl⟩
theorem dMod_readNotes_82 : uD prog_11_method_13_code 82 (.getfield 28) 3 85 := ⟨by decide +kernel, rfl⟩
theorem dMod_readNotes_85 : uD prog_11_method_13_code 85 (.iload 6) 2 87 := ⟨by decide +kernel, rfl⟩
theorem dMod_readNotes_87 : uD prog_11_method_13_code 87 (.iaload) 1 88 := ⟨by decide +kernel, rfl⟩
theorem dMod_readNotes_88 : uD prog_11_method_13_code 88 (.invokevirtual 110) 3 91 := ⟨by decide +kernel, rfl⟩
theorem dMod_readNotes_91 : uD prog_11_method_13_code 91 (.pop) 1 92 := ⟨by decide +kernel, rfl⟩
theorem dMod_readNotes_92 : uD prog_11_method_13_code 92 (.bipush (-5)) 2 94 := ⟨by decide +kernel, rfl⟩
theorem dMod_readNotes_94 : uD prog_11_method_13_code 94 (.ireturn) 1 95 := ⟨by decide +kernel, rfl⟩
theorem dMod_readNotes_95 : uD prog_11_method_13_code 95 (.aload_n 0) 1 96 := ⟨by decide +kernel, rfl⟩
theorem dMod_readNotes_96 : uD prog_11_method_13_code 96 (.getfield 28) 3 99 := ⟨by decide +kernel, rfl⟩
theorem dMod_readNotes_99 : uD prog_11_method_13_code 99 (.iload 6) 2 101 := ⟨by decide +kernel, rfl⟩
theorem dMod_readNotes_101 : uD prog_11_method_13_code 101 (.iload_n 3) 1 102 := ⟨by decide +kernel, rfl⟩
theorem dMod_readNotes_102 : uD prog_11_method_13_code 102 (.iconst 1) 1 103 := ⟨by decide +kernel, rfl⟩
theorem dMod_readNotes_103 : uD prog_11_method_13_code 103 (.iadd) 1 104 := ⟨by decide +kernel, rfl⟩
theorem dMod_readNotes_104 : uD prog_11_method_13_code 104 (.iastore) 1 105 := ⟨by decide +kernel, rfl⟩
theorem dMod_readNotes_105 : uD prog_11_method_13_code 105 (.aload_n 0) 1 106 := ⟨by decide +kernel, rfl⟩
theorem dMod_readNotes_106 : uD prog_11_method_13_code 106 (.iload_n 3) 1 107 := ⟨by decide +kernel, rfl⟩
theorem dMod_readNotes_107 : uD prog_11_method_13_code 107 (.iconst 2) 1 108 := ⟨by decide +kernel, rfl⟩
theorem dMod_readNotes_108 : uD prog_11_method_13_code 108 (.iadd) 1 109 := ⟨by decide +kernel, rfl⟩
theorem dMod_readNotes_109 : uD prog_11_method_13_code 109 (.bipush 61) 2 111 := ⟨by decide +kernel, rfl⟩
theorem dMod_readNotes_111 : uD prog_11_method_13_code 111 (.bipush 61) 2 113 := ⟨by decide +kernel, rfl⟩
theorem dMod_readNotes_113 : uD prog_11_method_13_code 113 (.invokevirtual 107) 3 116 := ⟨by decide +kernel, rfl⟩
theorem dMod_readNotes_116 : uB prog_11_method_13_code 116 (.ifCond .eq) 119 133 := ⟨17, by decide +kernel, rfl, by decide⟩
theorem dMod_readNotes_119 : uD prog_11_method_13_code 119 (.aload_n 0) 1 120 := ⟨by decide +kernel, rfl⟩
theorem dMod_readNotes_120 : uD prog_11_method_13_code 120 (.iload_n 3) 1 121 := ⟨by decide +kernel, rfl⟩
theorem dMod_readNotes_121 : uD prog_11_method_13_code 121 (.iconst 3) 1 122 := ⟨by decide +kernel, rfl⟩
theorem dMod_readNotes_122 : uD prog_11_method_13_code 122 (.iadd) 1 123 := ⟨by decide +kernel, rfl⟩
theorem dMod_readNotes_123 : uD prog_11_method_13_code 123 (.bipush 48) 2 125 := ⟨by decide +kernel, rfl⟩
theorem dMod_readNotes_125 : uD prog_11_method_13_code 125 (.bipush 57) 2 127 := ⟨by decide +kernel, rfl⟩
theorem dMod_readNotes_127 : uD prog_11_method_13_code 127 (.invokevirtual 107) 3 130 := ⟨by decide +kernel, rfl⟩
theorem dMod_readNotes_130 : uB prog_11_method_13_code 130 (.ifCond .ne) 133 167 := ⟨37, by decide +kernel, rfl, by decide⟩
theorem dMod_readNotes_133 : uD prog_11_method_13_code 133 (.aload_n 0) 1 134 := ⟨by decide +kernel, rfl⟩
theorem dMod_readNotes_134 : uD prog_11_method_13_code 134 (.aload_n 0) 1 135 := ⟨by decide +kernel, rfl⟩
theorem dMod_readNotes_135 : uD prog_11_method_13_code 135 (.iload_n 3) 1 136 := ⟨by decide +kernel, rfl⟩
theorem dMod_readNotes_136 : uD prog_11_method_13_code 136 (.iconst 2) 1 137 := ⟨by decide +kernel, rfl⟩
theorem dMod_readNotes_137 : uD prog_11_method_13_code 137 (.iadd) 1 138 := ⟨by decide +kernel, rfl⟩
theorem dMod_readNotes_138 : uD prog_11_method_13_code 138 (.bipush 61) 2 140 := ⟨by decide +kernel, rfl⟩
theorem dMod_readNotes_140 : uD prog_11_method_13_code 140 (.bipush 61) 2 142 := ⟨by decide +kernel, rfl⟩
theorem dMod_readNotes_142 : uD prog_11_method_13_code 142 (.invokevirtual 107) 3 145 := ⟨by decide +kernel, rfl⟩
theorem dMod_readNotes_145 : uB prog_11_method_13_code 145 (.ifCond .eq) 148 154 := ⟨9, by decide +kernel, rfl, by decide⟩
theorem dMod_readNotes_148 : uD prog_11_method_13_code 148 (.iload_n 3) 1 149 := ⟨by decide +kernel, rfl⟩
theorem dMod_readNotes_149 : uD prog_11_method_13_code 149 (.iconst 3) 1 150 := ⟨by decide +kernel, rfl⟩
theorem dMod_readNotes_150 : uD prog_11_method_13_code 150 (.iadd) 1 151 := ⟨by decide +kernel, rfl⟩
theorem dMod_readNotes_151 : uB prog_11_method_13_code 151 .goto 154 157 := ⟨6, by decide +kernel, rfl, by decide⟩
theorem dMod_readNotes_154 : uD prog_11_method_13_code 154 (.iload_n 3) 1 155 := ⟨by decide +kernel, rfl⟩
theorem dMod_readNotes_155 : uD prog_11_method_13_code 155 (.iconst 2) 1 156 := ⟨by decide +kernel, rfl⟩
theorem dMod_readNotes_156 : uD prog_11_method_13_code 156 (.iadd) 1 157 := ⟨by decide +kernel, rfl⟩
theorem dMod_readNotes_157 : uD prog_11_method_13_code 157 (.iconst 1) 1 158 := ⟨by decide +kernel, rfl⟩
theorem dMod_readNotes_158 : uD prog_11_method_13_code 158 (.bipush (-5)) 2 160 := ⟨by decide +kernel, rfl⟩
theorem dMod_readNotes_160 : uD prog_11_method_13_code 160 (.invokevirtual 110) 3 163 := ⟨by decide +kernel, rfl⟩
theorem dMod_readNotes_163 : uD prog_11_method_13_code 163 (.pop) 1 164 := ⟨by decide +kernel, rfl⟩
theorem dMod_readNotes_164 : uD prog_11_method_13_code 164 (.bipush (-5)) 2 166 := ⟨by decide +kernel, rfl⟩
theorem dMod_readNotes_166 : uD prog_11_method_13_code 166 (.ireturn) 1 167 := ⟨by decide +kernel, rfl⟩
theorem dMod_readNotes_167 : uD prog_11_method_13_code 167 (.aload_n 0) 1 168 := ⟨by decide +kernel, rfl⟩
theorem dMod_readNotes_168 : uD prog_11_method_13_code 168 (.iload_n 1) 1 169 := ⟨by decide +kernel, rfl⟩
theorem dMod_readNotes_169 : uD prog_11_method_13_code 169 (.iconst 3) 1 170 := ⟨by decide +kernel, rfl⟩
theorem dMod_readNotes_170 : uD prog_11_method_13_code 170 (.aload_n 0) 1 171 := ⟨by decide +kernel, rfl⟩
theorem dMod_readNotes_171 : uD prog_11_method_13_code 171 (.iload_n 1) 1 172 := ⟨by decide +kernel, rfl⟩
theorem dMod_readNotes_172 : uD prog_11_method_13_code 172 (.iconst 3) 1 173 := ⟨by decide +kernel, rfl⟩
theorem dMod_readNotes_173 : uD prog_11_method_13_code 173 (.invokevirtual 97) 3 176 := ⟨by decide +kernel, rfl⟩
theorem dMod_readNotes_176 : uD prog_11_method_13_code 176 (.iconst 1) 1 177 := ⟨by decide +kernel, rfl⟩
theorem dMod_readNotes_177 : uD prog_11_method_13_code 177 (.iload 6) 2 179 := ⟨by decide +kernel, rfl⟩
theorem dMod_readNotes_179 : uD prog_11_method_13_code 179 (.ishl) 1 180 := ⟨by decide +kernel, rfl⟩
theorem dMod_readNotes_180 : uD prog_11_method_13_code 180 (.ior) 1 181 := ⟨by decide +kernel, rfl⟩
theorem dMod_readNotes_181 : uD prog_11_method_13_code 181 (.invokevirtual 113) 3 184 := ⟨by decide +kernel, rfl⟩
theorem dMod_readNotes_184 : uD prog_11_method_13_code 184 (.aload_n 0) 1 185 := ⟨by decide +kernel, rfl⟩
theorem dMod_readNotes_185 : uD prog_11_method_13_code 185 (.iload_n 1) 1 186 := ⟨by decide +kernel, rfl⟩
theorem dMod_readNotes_186 : uD prog_11_method_13_code 186 (.bipush 9) 2 188 := ⟨by decide +kernel, rfl⟩
theorem dMod_readNotes_188 : uD prog_11_method_13_code 188 (.iload 6) 2 190 := ⟨by decide +kernel, rfl⟩
theorem dMod_readNotes_190 : uD prog_11_method_13_code 190 (.iadd) 1 191 := ⟨by decide +kernel, rfl⟩
theorem dMod_readNotes_191 : uD prog_11_method_13_code 191 (.aload_n 0) 1 192 := ⟨by decide +kernel, rfl⟩
theorem dMod_readNotes_192 : uD prog_11_method_13_code 192 (.getfield 19) 3 195 := ⟨by decide +kernel, rfl⟩
theorem dMod_readNotes_195 : uD prog_11_method_13_code 195 (.iload_n 3) 1 196 := ⟨by decide +kernel, rfl⟩
theorem dMod_readNotes_196 : uD prog_11_method_13_code 196 (.iconst 3) 1 197 := ⟨by decide +kernel, rfl⟩
theorem dMod_readNotes_197 : uD prog_11_method_13_code 197 (.iadd) 1 198 := ⟨by decide +kernel, rfl⟩
theorem dMod_readNotes_198 : uD prog_11_method_13_code 198 (.iaload) 1 199 := ⟨by decide +kernel, rfl⟩
theorem dMod_readNotes_199 : uD prog_11_method_13_code 199 (.bipush 48) 2 201 := ⟨by decide +kernel, rfl⟩
theorem dMod_readNotes_201 : uD prog_11_method_13_code 201 (.isub) 1 202 := ⟨by decide +kernel, rfl⟩
theorem dMod_readNotes_202 : uD prog_11_method_13_code 202 (.invokevirtual 113) 3 205 := ⟨by decide +kernel, rfl⟩
theorem dMod_readNotes_205 : uD prog_11_method_13_code 205 (.iload 5) 2 207 := ⟨by decide +kernel, rfl⟩
theorem dMod_readNotes_207 : uD prog_11_method_13_code 207 (.iload 6) 2 209 := ⟨by decide +kernel, rfl⟩
theorem dMod_readNotes_209 : uD prog_11_method_13_code 209 (.iconst 2) 1 210 := ⟨by decide +kernel, rfl⟩
theorem dMod_readNotes_210 : uD prog_11_method_13_code 210 (.iload 4) 2 212 := ⟨by decide +kernel, rfl⟩
theorem dMod_readNotes_212 : uD prog_11_method_13_code 212 (.imul) 1 213 := ⟨by decide +kernel, rfl⟩
theorem dMod_readNotes_213 : uD prog_11_method_13_code 213 (.ishl) 1 214 := ⟨by decide +kernel, rfl⟩
theorem dMod_readNotes_214 : uD prog_11_method_13_code 214 (.ior) 1 215 := ⟨by decide +kernel, rfl⟩
theorem dMod_readNotes_215 : uD prog_11_method_13_code 215 (.istore 5) 2 217 := ⟨by decide +kernel, rfl⟩
theorem dMod_readNotes_217 : uD prog_11_method_13_code 217 (.iinc 4 1) 3 220 := ⟨by decide +kernel, rfl⟩
theorem dMod_readNotes_220 : uD prog_11_method_13_code 220 (.iinc 3 4) 3 223 := ⟨by decide +kernel, rfl⟩
theorem dMod_readNotes_223 : uB prog_11_method_13_code 223 .goto 226 8 := ⟨-215, by decide +kernel, rfl, by decide⟩
theorem dMod_readNotes_226 : uD prog_11_method_13_code 226 (.aload_n 0) 1 227 := ⟨by decide +kernel, rfl⟩
theorem dMod_readNotes_227 : uD prog_11_method_13_code 227 (.iload_n 1) 1 228 := ⟨by decide +kernel, rfl⟩
theorem dMod_readNotes_228 : uD prog_11_method_13_code 228 (.iconst 4) 1 229 := ⟨by decide +kernel, rfl⟩
theorem dMod_readNotes_229 : uD prog_11_method_13_code 229 (.iload 4) 2 231 := ⟨by decide +kernel, rfl⟩
theorem dMod_readNotes_231 : uD prog_11_method_13_code 231 (.iconst 2) 1 232 := ⟨by decide +kernel, rfl⟩
theorem dMod_readNotes_232 : uB prog_11_method_13_code 232 (.if_icmp .ge) 235 240 := ⟨8, by decide +kernel, rfl, by decide⟩
theorem dMod_readNotes_235 : uD prog_11_method_13_code 235 (.bipush (-5)) 2 237 := ⟨by decide +kernel, rfl⟩
theorem dMod_readNotes_237 : uB prog_11_method_13_code 237 .goto 240 253 := ⟨16, by decide +kernel, rfl, by decide⟩
theorem dMod_readNotes_240 : uD prog_11_method_13_code 240 (.aload_n 0) 1 241 := ⟨by decide +kernel, rfl⟩
theorem dMod_readNotes_241 : uD prog_11_method_13_code 241 (.iload_n 1) 1 242 := ⟨by decide +kernel, rfl⟩
theorem dMod_readNotes_242 : uD prog_11_method_13_code 242 (.iconst 3) 1 243 := ⟨by decide +kernel, rfl⟩
theorem dMod_readNotes_243 : uD prog_11_method_13_code 243 (.invokevirtual 97) 3 246 := ⟨by decide +kernel, rfl⟩
theorem dMod_readNotes_246 : uD prog_11_method_13_code 246 (.iload 5) 2 248 := ⟨by decide +kernel, rfl⟩
theorem dMod_readNotes_248 : uD prog_11_method_13_code 248 (.iload 4) 2 250 := ⟨by decide +kernel, rfl⟩
theorem dMod_readNotes_250 : uD prog_11_method_13_code 250 (.invokestatic 116) 3 253 := ⟨by decide +kernel, rfl⟩
theorem dMod_readNotes_253 : uD prog_11_method_13_code 253 (.invokevirtual 113) 3 256 := ⟨by decide +kernel, rfl⟩
theorem dMod_readNotes_256 : uD prog_11_method_13_code 256 (.aload_n 0) 1 257 := ⟨by decide +kernel, rfl⟩
theorem dMod_readNotes_257 : uD prog_11_method_13_code 257 (.iload_n 3) 1 258 := ⟨by decide +kernel, rfl⟩
theorem dMod_readNotes_258 : uD prog_11_method_13_code 258 (.bipush 62) 2 260 := ⟨by decide +kernel, rfl⟩
theorem dMod_readNotes_260 : uD prog_11_method_13_code 260 (.bipush 62) 2 262 := ⟨by decide +kernel, rfl⟩
theorem dMod_readNotes_262 : uD prog_11_method_13_code 262 (.invokevirtual 107) 3 265 := ⟨by decide +kernel, rfl⟩
theorem dMod_readNotes_265 : uB prog_11_method_13_code 265 (.ifCond .ne) 268 280 := ⟨15, by decide +kernel, rfl, by decide⟩
theorem dMod_readNotes_268 : uD prog_11_method_13_code 268 (.aload_n 0) 1 269 := ⟨by decide +kernel, rfl⟩
theorem dMod_readNotes_269 : uD prog_11_method_13_code 269 (.iload_n 3) 1 270 := ⟨by decide +kernel, rfl⟩
theorem dMod_readNotes_270 : uD prog_11_method_13_code 270 (.iconst 1) 1 271 := ⟨by decide +kernel, rfl⟩
theorem dMod_readNotes_271 : uD prog_11_method_13_code 271 (.bipush (-5)) 2 273 := ⟨by decide +kernel, rfl⟩
theorem dMod_readNotes_273 : uD prog_11_method_13_code 273 (.invokevirtual 110) 3 276 := ⟨by decide +kernel, rfl⟩
theorem dMod_readNotes_276 : uD prog_11_method_13_code 276 (.pop) 1 277 := ⟨by decide +kernel, rfl⟩
theorem dMod_readNotes_277 : uD prog_11_method_13_code 277 (.bipush (-5)) 2 279 := ⟨by decide +kernel, rfl⟩
theorem dMod_readNotes_279 : uD prog_11_method_13_code 279 (.ireturn) 1 280 := ⟨by decide +kernel, rfl⟩
theorem dMod_readNotes_280 : uD prog_11_method_13_code 280 (.iload_n 3) 1 281 := ⟨by decide +kernel, rfl⟩
theorem dMod_readNotes_281 : uD prog_11_method_13_code 281 (.iconst 1) 1 282 := ⟨by decide +kernel, rfl⟩
theorem dMod_readNotes_282 : uD prog_11_method_13_code 282 (.iadd) 1 283 := ⟨by decide +kernel, rfl⟩
theorem dMod_readNotes_283 : uD prog_11_method_13_code 283 (.ireturn) 1 284 := ⟨by decide +kernel, rfl⟩
theorem dMod_opens_0 : uD prog_11_method_14_code 0 (.aload_n 0) 1 1 := ⟨by decide +kernel, rfl⟩
theorem dMod_opens_1 : uD prog_11_method_14_code 1 (.getfield 19) 3 4 := ⟨by decide +kernel, rfl⟩
theorem dMod_opens_4 : uD prog_11_method_14_code 4 (.iload_n 1) 1 5 := ⟨by decide +kernel, rfl⟩
theorem dMod_opens_5 : uD prog_11_method_14_code 5 (.iconst 1) 1 6 := ⟨by decide +kernel, rfl⟩
theorem dMod_opens_6 : uD prog_11_method_14_code 6 (.iadd) 1 7 := ⟨by decide +kernel, rfl⟩
theorem dMod_opens_7 : uD prog_11_method_14_code 7 (.iaload) 1 8 := ⟨by decide +kernel, rfl⟩
theorem dMod_opens_8 : uD prog_11_method_14_code 8 (.bipush 97) 2 10 := ⟨by decide +kernel, rfl⟩
theorem dMod_opens_10 : uD prog_11_method_14_code 10 (.isub) 1 11 := ⟨by decide +kernel, rfl⟩
theorem dMod_opens_11 : uD prog_11_method_14_code 11 (.istore_n 2) 1 12 := ⟨by decide +kernel, rfl⟩
theorem dMod_opens_12 : uD prog_11_method_14_code 12 (.aload_n 0) 1 13 := ⟨by decide +kernel, rfl⟩
theorem dMod_opens_13 : uD prog_11_method_14_code 13 (.iload_n 2) 1 14 := ⟨by decide +kernel, rfl⟩
theorem dMod_opens_14 : uD prog_11_method_14_code 14 (.iconst 0) 1 15 := ⟨by decide +kernel, rfl⟩
theorem dMod_opens_15 : uD prog_11_method_14_code 15 (.invokevirtual 120) 3 18 := ⟨by decide +kernel, rfl⟩
theorem dMod_opens_18 : uD prog_11_method_14_code 18 (.aload_n 0) 1 19 := ⟨by decide +kernel, rfl⟩
theorem dMod_opens_19 : uD prog_11_method_14_code 19 (.getfield 94) 3 22 := ⟨by decide +kernel, rfl⟩
theorem dMod_opens_22 : uD prog_11_method_14_code 22 (.bipush 6) 2 24 := ⟨by decide +kernel, rfl⟩
theorem dMod_opens_24 : uB prog_11_method_14_code 24 (.if_icmp .ne) 27 39 := ⟨15, by decide +kernel, rfl, by decide⟩
theorem dMod_opens_27 : uD prog_11_method_14_code 27 (.aload_n 0) 1 28 := ⟨by decide +kernel, rfl⟩
theorem dMod_opens_28 : uD prog_11_method_14_code 28 (.iload_n 1) 1 29 := ⟨by decide +kernel, rfl⟩
theorem dMod_opens_29 : uD prog_11_method_14_code 29 (.iconst 4) 1 30 := ⟨by decide +kernel, rfl⟩
theorem dMod_opens_30 : uD prog_11_method_14_code 30 (.bipush (-5)) 2 32 := ⟨by decide +kernel, rfl⟩
theorem dMod_opens_32 : uD prog_11_method_14_code 32 (.invokevirtual 110) 3 35 := ⟨by decide +kernel, rfl⟩
theorem dMod_opens_35 : uD prog_11_method_14_code 35 (.pop) 1 36 := ⟨by decide +kernel, rfl⟩
theorem dMod_opens_36 : uD prog_11_method_14_code 36 (.bipush (-5)) 2 38 := ⟨by decide +kernel, rfl⟩
theorem dMod_opens_38 : uD prog_11_method_14_code 38 (.ireturn) 1 39 := ⟨by decide +kernel, rfl⟩
theorem dMod_opens_39 : uD prog_11_method_14_code 39 (.aload_n 0) 1 40 := ⟨by decide +kernel, rfl⟩
theorem dMod_opens_40 : uD prog_11_method_14_code 40 (.getfield 124) 3 43 := ⟨by decide +kernel, rfl⟩
theorem dMod_opens_43 : uD prog_11_method_14_code 43 (.istore_n 3) 1 44 := ⟨by decide +kernel, rfl⟩
theorem dMod_opens_44 : uD prog_11_method_14_code 44 (.aload_n 0) 1 45 := ⟨by decide +kernel, rfl⟩
theorem dMod_opens_45 : uD prog_11_method_14_code 45 (.dup) 1 46 := ⟨by decide +kernel, rfl⟩
theorem dMod_opens_46 : uD prog_11_method_14_code 46 (.getfield 124) 3 49 := ⟨by decide +kernel, rfl⟩
theorem dMod_opens_49 : uD prog_11_method_14_code 49 (.iconst 1) 1 50 := ⟨by decide +kernel, rfl⟩
theorem dMod_opens_50 : uD prog_11_method_14_code 50 (.iadd) 1 51 := ⟨by decide +kernel, rfl⟩
theorem dMod_opens_51 : uD prog_11_method_14_code 51 (.putfield 124) 3 54 := ⟨by decide +kernel, rfl⟩
theorem dMod_opens_54 : uD prog_11_method_14_code 54 (.iconst 0) 1 55 := ⟨by decide +kernel, rfl⟩
theorem dMod_opens_55 : uD prog_11_method_14_code 55 (.istore 4) 2 57 := ⟨by decide +kernel, rfl⟩
theorem dMod_opens_57 : uD prog_11_method_14_code 57 (.iload 4) 2 59 := ⟨by decide +kernel, rfl⟩
theorem dMod_opens_59 : uD prog_11_method_14_code 59 (.bipush 13) 2 61 := ⟨by decide +kernel, rfl⟩
theorem dMod_opens_61 : uB prog_11_method_14_code 61 (.if_icmp .ge) 64 78 := ⟨17, by decide +kernel, rfl, by decide⟩
theorem dMod_opens_64 : uD prog_11_method_14_code 64 (.aload_n 0) 1 65 := ⟨by decide +kernel, rfl⟩
theorem dMod_opens_65 : uD prog_11_method_14_code 65 (.iload_n 3) 1 66 := ⟨by decide +kernel, rfl⟩
theorem dMod_opens_66 : uD prog_11_method_14_code 66 (.iload 4) 2 68 := ⟨by decide +kernel, rfl⟩
theorem dMod_opens_68 : uD prog_11_method_14_code 68 (.iconst 0) 1 69 := ⟨by decide +kernel, rfl⟩
theorem dMod_opens_69 : uD prog_11_method_14_code 69 (.invokevirtual 113) 3 72 := ⟨by decide +kernel, rfl⟩
theorem dMod_opens_72 : uD prog_11_method_14_code 72 (.iinc 4 1) 3 75 := ⟨by decide +kernel, rfl⟩
theorem dMod_opens_75 : uB prog_11_method_14_code 75 .goto 78 57 := ⟨-18, by decide +kernel, rfl, by decide⟩
theorem dMod_opens_78 : uD prog_11_method_14_code 78 (.aload_n 0) 1 79 := ⟨by decide +kernel, rfl⟩
theorem dMod_opens_79 : uD prog_11_method_14_code 79 (.iload_n 3) 1 80 := ⟨by decide +kernel, rfl⟩
theorem dMod_opens_80 : uD prog_11_method_14_code 80 (.iconst 0) 1 81 := ⟨by decide +kernel, rfl⟩
theorem dMod_opens_81 : uD prog_11_method_14_code 81 (.iload_n 2) 1 82 := ⟨by decide +kernel, rfl⟩
theorem dMod_opens_82 : uD prog_11_method_14_code 82 (.invokevirtual 113) 3 85 := ⟨by decide +kernel, rfl⟩
theorem dMod_opens_85 : uD prog_11_method_14_code 85 (.aload_n 0) 1 86 := ⟨by decide +kernel, rfl⟩
theorem dMod_opens_86 : uD prog_11_method_14_code 86 (.iload_n 3) 1 87 := ⟨by decide +kernel, rfl⟩
theorem dMod_opens_87 : uD prog_11_method_14_code 87 (.iconst 1) 1 88 := ⟨by decide +kernel, rfl⟩
theorem dMod_opens_88 : uD prog_11_method_14_code 88 (.iload_n 1) 1 89 := ⟨by decide +kernel, rfl⟩
theorem dMod_opens_89 : uD prog_11_method_14_code 89 (.invokevirtual 113) 3 92 := ⟨by decide +kernel, rfl⟩
theorem dMod_opens_92 : uD prog_11_method_14_code 92 (.aload_n 0) 1 93 := ⟨by decide +kernel, rfl⟩
theorem dMod_opens_93 : uD prog_11_method_14_code 93 (.iload_n 3) 1 94 := ⟨by decide +kernel, rfl⟩
theorem dMod_opens_94 : uD prog_11_method_14_code 94 (.iconst 2) 1 95 := ⟨by decide +kernel, rfl⟩
theorem dMod_opens_95 : uD prog_11_method_14_code 95 (.aload_n 0) 1 96 := ⟨by decide +kernel, rfl⟩
theorem dMod_opens_96 : uD prog_11_method_14_code 96 (.getfield 94) 3 99 := ⟨by decide +kernel, rfl⟩
theorem dMod_opens_99 : uB prog_11_method_14_code 99 (.ifCond .ne) 102 107 := ⟨8, by decide +kernel, rfl, by decide⟩
theorem dMod_opens_102 : uD prog_11_method_14_code 102 (.bipush (-5)) 2 104 := ⟨by decide +kernel, rfl⟩
theorem dMod_opens_104 : uB prog_11_method_14_code 104 .goto 107 118 := ⟨14, by decide +kernel, rfl, by decide⟩
theorem dMod_opens_107 : uD prog_11_method_14_code 107 (.aload_n 0) 1 108 := ⟨by decide +kernel, rfl⟩
theorem dMod_opens_108 : uD prog_11_method_14_code 108 (.getfield 25) 3 111 := ⟨by decide +kernel, rfl⟩
theorem dMod_opens_111 : uD prog_11_method_14_code 111 (.aload_n 0) 1 112 := ⟨by decide +kernel, rfl⟩
theorem dMod_opens_112 : uD prog_11_method_14_code 112 (.getfield 94) 3 115 := ⟨by decide +kernel, rfl⟩
theorem dMod_opens_115 : uD prog_11_method_14_code 115 (.iconst 1) 1 116 := ⟨by decide +kernel, rfl⟩
theorem dMod_opens_116 : uD prog_11_method_14_code 116 (.isub) 1 117 := ⟨by decide +kernel, rfl⟩
theorem dMod_opens_117 : uD prog_11_method_14_code 117 (.iaload) 1 118 := ⟨by decide +kernel, rfl⟩
theorem dMod_opens_118 : uD prog_11_method_14_code 118 (.invokevirtual 113) 3 121 := ⟨by decide +kernel, rfl⟩
theorem dMod_opens_121 : uD prog_11_method_14_code 121 (.aload_n 0) 1 122 := ⟨by decide +kernel, rfl⟩
theorem dMod_opens_122 : uD prog_11_method_14_code 122 (.iload_n 3) 1 123 := ⟨by decide +kernel, rfl⟩
theorem dMod_opens_123 : uD prog_11_method_14_code 123 (.bipush 7) 2 125 := ⟨by decide +kernel, rfl⟩
theorem dMod_opens_125 : uD prog_11_method_14_code 125 (.bipush (-5)) 2 127 := ⟨by decide +kernel, rfl⟩
theorem dMod_opens_127 : uD prog_11_method_14_code 127 (.invokevirtual 113) 3 130 := ⟨by decide +kernel, rfl⟩
theorem dMod_opens_130 : uD prog_11_method_14_code 130 (.aload_n 0) 1 131 := ⟨by decide +kernel, rfl⟩
theorem dMod_opens_131 : uD prog_11_method_14_code 131 (.getfield 94) 3 134 := ⟨by decide +kernel, rfl⟩
theorem dMod_opens_134 : uB prog_11_method_14_code 134 (.ifCond .le) 137 173 := ⟨39, by decide +kernel, rfl, by decide⟩
theorem dMod_opens_137 : uD prog_11_method_14_code 137 (.aload_n 0) 1 138 := ⟨by decide +kernel, rfl⟩
theorem dMod_opens_138 : uD prog_11_method_14_code 138 (.aload_n 0) 1 139 := ⟨by decide +kernel, rfl⟩
theorem dMod_opens_139 : uD prog_11_method_14_code 139 (.getfield 25) 3 142 := ⟨by decide +kernel, rfl⟩
theorem dMod_opens_142 : uD prog_11_method_14_code 142 (.aload_n 0) 1 143 := ⟨by decide +kernel, rfl⟩
theorem dMod_opens_143 : uD prog_11_method_14_code 143 (.getfield 94) 3 146 := ⟨by decide +kernel, rfl⟩
theorem dMod_opens_146 : uD prog_11_method_14_code 146 (.iconst 1) 1 147 := ⟨by decide +kernel, rfl⟩
theorem dMod_opens_147 : uD prog_11_method_14_code 147 (.isub) 1 148 := ⟨by decide +kernel, rfl⟩
theorem dMod_opens_148 : uD prog_11_method_14_code 148 (.iaload) 1 149 := ⟨by decide +kernel, rfl⟩
theorem dMod_opens_149 : uD prog_11_method_14_code 149 (.bipush 6) 2 151 := ⟨by decide +kernel, rfl⟩
theorem dMod_opens_151 : uD prog_11_method_14_code 151 (.aload_n 0) 1 152 := ⟨by decide +kernel, rfl⟩
theorem dMod_opens_152 : uD prog_11_method_14_code 152 (.aload_n 0) 1 153 := ⟨by decide +kernel, rfl⟩
theorem dMod_opens_153 : uD prog_11_method_14_code 153 (.getfield 25) 3 156 := ⟨by decide +kernel, rfl⟩
theorem dMod_opens_156 : uD prog_11_method_14_code 156 (.aload_n 0) 1 157 := ⟨by decide +kernel, rfl⟩
theorem dMod_opens_157 : uD prog_11_method_14_code 157 (.getfield 94) 3 160 := ⟨by decide +kernel, rfl⟩
theorem dMod_opens_160 : uD prog_11_method_14_code 160 (.iconst 1) 1 161 := ⟨by decide +kernel, rfl⟩
theorem dMod_opens_161 : uD prog_11_method_14_code 161 (.isub) 1 162 := ⟨by decide +kernel, rfl⟩
theorem dMod_opens_162 : uD prog_11_method_14_code 162 (.iaload) 1 163 := ⟨by decide +kernel, rfl⟩
theorem dMod_opens_163 : uD prog_11_method_14_code 163 (.bipush 6) 2 165 := ⟨by decide +kernel, rfl⟩
theorem dMod_opens_165 : uD prog_11_method_14_code 165 (.invokevirtual 97) 3 168 := ⟨by decide +kernel, rfl⟩
theorem dMod_opens_168 : uD prog_11_method_14_code 168 (.iconst 1) 1 169 := ⟨by decide +kernel, rfl⟩
theorem dMod_opens_169 : uD prog_11_method_14_code 169 (.iadd) 1 170 := ⟨by decide +kernel, rfl⟩
theorem dMod_opens_170 : uD prog_11_method_14_code 170 (.invokevirtual 113) 3 173 := ⟨by decide +kernel, rfl⟩
theorem dMod_opens_173 : uD prog_11_method_14_code 173 (.aload_n 0) 1 174 := ⟨by decide +kernel, rfl⟩
theorem dMod_opens_174 : uD prog_11_method_14_code 174 (.getfield 25) 3 177 := ⟨by decide +kernel, rfl⟩
theorem dMod_opens_177 : uD prog_11_method_14_code 177 (.aload_n 0) 1 178 := ⟨by decide +kernel, rfl⟩
theorem dMod_opens_178 : uD prog_11_method_14_code 178 (.getfield 94) 3 181 := ⟨by decide +kernel, rfl⟩
theorem dMod_opens_181 : uD prog_11_method_14_code 181 (.iload_n 3) 1 182 := ⟨by decide +kernel, rfl⟩
theorem dMod_opens_182 : uD prog_11_method_14_code 182 (.iastore) 1 183 := ⟨by decide +kernel, rfl⟩
theorem dMod_opens_183 : uD prog_11_method_14_code 183 (.aload_n 0) 1 184 := ⟨by decide +kernel, rfl⟩
theorem dMod_opens_184 : uD prog_11_method_14_code 184 (.dup) 1 185 := ⟨by decide +kernel, rfl⟩
theorem dMod_opens_185 : uD prog_11_method_14_code 185 (.getfield 94) 3 188 := ⟨by decide +kernel, rfl⟩
theorem dMod_opens_188 : uD prog_11_method_14_code 188 (.iconst 1) 1 189 := ⟨by decide +kernel, rfl⟩
theorem dMod_opens_189 : uD prog_11_method_14_code 189 (.iadd) 1 190 := ⟨by decide +kernel, rfl⟩
theorem dMod_opens_190 : uD prog_11_method_14_code 190 (.putfield 94) 3 193 := ⟨by decide +kernel, rfl⟩
theorem dMod_opens_193 : uD prog_11_method_14_code 193 (.aload_n 0) 1 194 := ⟨by decide +kernel, rfl⟩
theorem dMod_opens_194 : uD prog_11_method_14_code 194 (.iload_n 3) 1 195 := ⟨by decide +kernel, rfl⟩
theorem dMod_opens_195 : uD prog_11_method_14_code 195 (.bipush 8) 2 197 := ⟨by decide +kernel, rfl⟩
theorem dMod_opens_197 : uD prog_11_method_14_code 197 (.aload_n 0) 1 198 := ⟨by decide +kernel, rfl⟩
theorem dMod_opens_198 : uD prog_11_method_14_code 198 (.getfield 94) 3 201 := ⟨by decide +kernel, rfl⟩
theorem dMod_opens_201 : uD prog_11_method_14_code 201 (.invokevirtual 113) 3 204 := ⟨by decide +kernel, rfl⟩
theorem dMod_opens_204 : uD prog_11_method_14_code 204 (.aload_n 0) 1 205 := ⟨by decide +kernel, rfl⟩
theorem dMod_opens_205 : uD prog_11_method_14_code 205 (.iconst 0) 1 206 := ⟨by decide +kernel, rfl⟩
theorem dMod_opens_206 : uD prog_11_method_14_code 206 (.iload_n 3) 1 207 := ⟨by decide +kernel, rfl⟩
theorem dMod_opens_207 : uD prog_11_method_14_code 207 (.invokevirtual 101) 3 210 := ⟨by decide +kernel, rfl⟩
theorem dMod_opens_210 : uD prog_11_method_14_code 210 (.aload_n 0) 1 211 := ⟨by decide +kernel, rfl⟩
theorem dMod_opens_211 : uD prog_11_method_14_code 211 (.iload_n 3) 1 212 := ⟨by decide +kernel, rfl⟩
theorem dMod_opens_212 : uD prog_11_method_14_code 212 (.iload_n 1) 1 213 := ⟨by decide +kernel, rfl⟩
theorem dMod_opens_213 : uD prog_11_method_14_code 213 (.iconst 2) 1 214 := ⟨by decide +kernel, rfl⟩
theorem dMod_opens_214 : uD prog_11_method_14_code 214 (.iadd) 1 215 := ⟨by decide +kernel, rfl⟩
theorem dMod_opens_215 : uD prog_11_method_14_code 215 (.invokevirtual 127) 3 218 := ⟨by decide +kernel, rfl⟩
theorem dMod_opens_218 : uD prog_11_method_14_code 218 (.ireturn) 1 219 := ⟨by decide +kernel, rfl⟩
theorem dMod_closes_0 : uD prog_11_method_15_code 0 (.aload_n 0) 1 1 := ⟨by decide +kernel, rfl⟩
theorem dMod_closes_1 : uD prog_11_method_15_code 1 (.getfield 94) 3 4 := ⟨by decide +kernel, rfl⟩
theorem dMod_closes_4 : uB prog_11_method_15_code 4 (.ifCond .eq) 7 21 := ⟨17, by decide +kernel, rfl, by decide⟩
theorem dMod_closes_7 : uD prog_11_method_15_code 7 (.aload_n 0) 1 8 := ⟨by decide +kernel, rfl⟩
theorem dMod_closes_8 : uD prog_11_method_15_code 8 (.iload_n 1) 1 9 := ⟨by decide +kernel, rfl⟩
theorem dMod_closes_9 : uD prog_11_method_15_code 9 (.iconst 2) 1 10 := ⟨by decide +kernel, rfl⟩
theorem dMod_closes_10 : uD prog_11_method_15_code 10 (.iadd) 1 11 := ⟨by decide +kernel, rfl⟩
theorem dMod_closes_11 : uD prog_11_method_15_code 11 (.bipush 97) 2 13 := ⟨by decide +kernel, rfl⟩
theorem dMod_closes_13 : uD prog_11_method_15_code 13 (.bipush 102) 2 15 := ⟨by decide +kernel, rfl⟩
theorem dMod_closes_15 : uD prog_11_method_15_code 15 (.invokevirtual 107) 3 18 := ⟨by decide +kernel, rfl⟩
theorem dMod_closes_18 : uB prog_11_method_15_code 18 (.ifCond .ne) 21 48 := ⟨30, by decide +kernel, rfl, by decide⟩
theorem dMod_closes_21 : uD prog_11_method_15_code 21 (.aload_n 0) 1 22 := ⟨by decide +kernel, rfl⟩
theorem dMod_closes_22 : uD prog_11_method_15_code 22 (.aload_n 0) 1 23 := ⟨by decide +kernel, rfl⟩
theorem dMod_closes_23 : uD prog_11_method_15_code 23 (.getfield 94) 3 26 := ⟨by decide +kernel, rfl⟩
theorem dMod_closes_26 : uB prog_11_method_15_code 26 (.ifCond .ne) 29 35 := ⟨9, by decide +kernel, rfl, by decide⟩
theorem dMod_closes_29 : uD prog_11_method_15_code 29 (.iload_n 1) 1 30 := ⟨by decide +kernel, rfl⟩
theorem dMod_closes_30 : uD prog_11_method_15_code 30 (.iconst 1) 1 31 := ⟨by decide +kernel, rfl⟩
theorem dMod_closes_31 : uD prog_11_method_15_code 31 (.iadd) 1 32 := ⟨by decide +kernel, rfl⟩
theorem dMod_closes_32 : uB prog_11_method_15_code 32 .goto 35 38 := ⟨6, by decide +kernel, rfl, by decide⟩
theorem dMod_closes_35 : uD prog_11_method_15_code 35 (.iload_n 1) 1 36 := ⟨by decide +kernel, rfl⟩
theorem dMod_closes_36 : uD prog_11_method_15_code 36 (.iconst 2) 1 37 := ⟨by decide +kernel, rfl⟩
theorem dMod_closes_37 : uD prog_11_method_15_code 37 (.iadd) 1 38 := ⟨by decide +kernel, rfl⟩
theorem dMod_closes_38 : uD prog_11_method_15_code 38 (.iconst 1) 1 39 := ⟨by decide +kernel, rfl⟩
theorem dMod_closes_39 : uD prog_11_method_15_code 39 (.bipush (-5)) 2 41 := ⟨by decide +kernel, rfl⟩
theorem dMod_closes_41 : uD prog_11_method_15_code 41 (.invokevirtual 110) 3 44 := ⟨by decide +kernel, rfl⟩
theorem dMod_closes_44 : uD prog_11_method_15_code 44 (.pop) 1 45 := ⟨by decide +kernel, rfl⟩
theorem dMod_closes_45 : uD prog_11_method_15_code 45 (.bipush (-5)) 2 47 := ⟨by decide +kernel, rfl⟩
theorem dMod_closes_47 : uD prog_11_method_15_code 47 (.ireturn) 1 48 := ⟨by decide +kernel, rfl⟩
theorem dMod_closes_48 : uD prog_11_method_15_code 48 (.aload_n 0) 1 49 := ⟨by decide +kernel, rfl⟩
theorem dMod_closes_49 : uD prog_11_method_15_code 49 (.getfield 19) 3 52 := ⟨by decide +kernel, rfl⟩
theorem dMod_closes_52 : uD prog_11_method_15_code 52 (.iload_n 1) 1 53 := ⟨by decide +kernel, rfl⟩
theorem dMod_closes_53 : uD prog_11_method_15_code 53 (.iconst 2) 1 54 := ⟨by decide +kernel, rfl⟩
theorem dMod_closes_54 : uD prog_11_method_15_code 54 (.iadd) 1 55 := ⟨by decide +kernel, rfl⟩
theorem dMod_closes_55 : uD prog_11_method_15_code 55 (.iaload) 1 56 := ⟨by decide +kernel, rfl⟩
theorem dMod_closes_56 : uD prog_11_method_15_code 56 (.bipush 97) 2 58 := ⟨by decide +kernel, rfl⟩
theorem dMod_closes_58 : uD prog_11_method_15_code 58 (.isub) 1 59 := ⟨by decide +kernel, rfl⟩
theorem dMod_closes_59 : uD prog_11_method_15_code 59 (.istore_n 2) 1 60 := ⟨by decide +kernel, rfl⟩
theorem dMod_closes_60 : uD prog_11_method_15_code 60 (.aload_n 0) 1 61 := ⟨by decide +kernel, rfl⟩
theorem dMod_closes_61 : uD prog_11_method_15_code 61 (.iload_n 2) 1 62 := ⟨by decide +kernel, rfl⟩
theorem dMod_closes_62 : uD prog_11_method_15_code 62 (.iconst 1) 1 63 := ⟨by decide +kernel, rfl⟩
theorem dMod_closes_63 : uD prog_11_method_15_code 63 (.invokevirtual 120) 3 66 := ⟨by decide +kernel, rfl⟩
theorem dMod_closes_66 : uD prog_11_method_15_code 66 (.aload_n 0) 1 67 := ⟨by decide +kernel, rfl⟩
theorem dMod_closes_67 : uD prog_11_method_15_code 67 (.aload_n 0) 1 68 := ⟨by decide +kernel, rfl⟩
theorem dMod_closes_68 : uD prog_11_method_15_code 68 (.getfield 25) 3 71 := ⟨by decide +kernel, rfl⟩
theorem dMod_closes_71 : uD prog_11_method_15_code 71 (.aload_n 0) 1 72 := ⟨by decide +kernel, rfl⟩
theorem dMod_closes_72 : uD prog_11_method_15_code 72 (.getfield 94) 3 75 := ⟨by decide +kernel, rfl⟩
theorem dMod_closes_75 : uD prog_11_method_15_code 75 (.iconst 1) 1 76 := ⟨by decide +kernel, rfl⟩
theorem dMod_closes_76 : uD prog_11_method_15_code 76 (.isub) 1 77 := ⟨by decide +kernel, rfl⟩
theorem dMod_closes_77 : uD prog_11_method_15_code 77 (.iaload) 1 78 := ⟨by decide +kernel, rfl⟩
theorem dMod_closes_78 : uD prog_11_method_15_code 78 (.iconst 0) 1 79 := ⟨by decide +kernel, rfl⟩
theorem dMod_closes_79 : uD prog_11_method_15_code 79 (.invokevirtual 97) 3 82 := ⟨by decide +kernel, rfl⟩
theorem dMod_closes_82 : uD prog_11_method_15_code 82 (.iload_n 2) 1 83 := ⟨by decide +kernel, rfl⟩
theorem dMod_closes_83 : uB prog_11_method_15_code 83 (.if_icmp .eq) 86 114 := ⟨31, by decide +kernel, rfl, by decide⟩
theorem dMod_closes_86 : uD prog_11_method_15_code 86 (.aload_n 0) 1 87 := ⟨by decide +kernel, rfl⟩
theorem dMod_closes_87 : uD prog_11_method_15_code 87 (.iload_n 1) 1 88 := ⟨by decide +kernel, rfl⟩
theorem dMod_closes_88 : uD prog_11_method_15_code 88 (.iconst 2) 1 89 := ⟨by decide +kernel, rfl⟩
theorem dMod_closes_89 : uD prog_11_method_15_code 89 (.iadd) 1 90 := ⟨by decide +kernel, rfl⟩
theorem dMod_closes_90 : uD prog_11_method_15_code 90 (.iconst 3) 1 91 := ⟨by decide +kernel, rfl⟩
theorem dMod_closes_91 : uD prog_11_method_15_code 91 (.aload_n 0) 1 92 := ⟨by decide +kernel, rfl⟩
theorem dMod_closes_92 : uD prog_11_method_15_code 92 (.aload_n 0) 1 93 := ⟨by decide +kernel, rfl⟩
theorem dMod_closes_93 : uD prog_11_method_15_code 93 (.getfield 25) 3 96 := ⟨by decide +kernel, rfl⟩
theorem dMod_closes_96 : uD prog_11_method_15_code 96 (.aload_n 0) 1 97 := ⟨by decide +kernel, rfl⟩
theorem dMod_closes_97 : uD prog_11_method_15_code 97 (.getfield 94) 3 100 := ⟨by decide +kernel, rfl⟩
theorem dMod_closes_100 : uD prog_11_method_15_code 100 (.iconst 1) 1 101 := ⟨by decide +kernel, rfl⟩
theorem dMod_closes_101 : uD prog_11_method_15_code 101 (.isub) 1 102 := ⟨by decide +kernel, rfl⟩
theorem dMod_closes_102 : uD prog_11_method_15_code 102 (.iaload) 1 103 := ⟨by decide +kernel, rfl⟩
theorem dMod_closes_103 : uD prog_11_method_15_code 103 (.iconst 1) 1 104 := ⟨by decide +kernel, rfl⟩
theorem dMod_closes_104 : uD prog_11_method_15_code 104 (.invokevirtual 97) 3 107 := ⟨by decide +kernel, rfl⟩
theorem dMod_closes_107 : uD prog_11_method_15_code 107 (.invokevirtual 110) 3 110 := ⟨by decide +kernel, rfl⟩
theorem dMod_closes_110 : uD prog_11_method_15_code 110 (.pop) 1 111 := ⟨by decide +kernel, rfl⟩
theorem dMod_closes_111 : uD prog_11_method_15_code 111 (.bipush (-5)) 2 113 := ⟨by decide +kernel, rfl⟩
theorem dMod_closes_113 : uD prog_11_method_15_code 113 (.ireturn) 1 114 := ⟨by decide +kernel, rfl⟩
theorem dMod_closes_114 : uD prog_11_method_15_code 114 (.aload_n 0) 1 115 := ⟨by decide +kernel, rfl⟩
theorem dMod_closes_115 : uD prog_11_method_15_code 115 (.iload_n 1) 1 116 := ⟨by decide +kernel, rfl⟩
theorem dMod_closes_116 : uD prog_11_method_15_code 116 (.iconst 3) 1 117 := ⟨by decide +kernel, rfl⟩
theorem dMod_closes_117 : uD prog_11_method_15_code 117 (.iadd) 1 118 := ⟨by decide +kernel, rfl⟩
theorem dMod_closes_118 : uD prog_11_method_15_code 118 (.bipush 62) 2 120 := ⟨by decide +kernel, rfl⟩
theorem dMod_closes_120 : uD prog_11_method_15_code 120 (.bipush 62) 2 122 := ⟨by decide +kernel, rfl⟩
theorem dMod_closes_122 : uD prog_11_method_15_code 122 (.invokevirtual 107) 3 125 := ⟨by decide +kernel, rfl⟩
theorem dMod_closes_125 : uB prog_11_method_15_code 125 (.ifCond .ne) 128 142 := ⟨17, by decide +kernel, rfl, by decide⟩
theorem dMod_closes_128 : uD prog_11_method_15_code 128 (.aload_n 0) 1 129 := ⟨by decide +kernel, rfl⟩
theorem dMod_closes_129 : uD prog_11_method_15_code 129 (.iload_n 1) 1 130 := ⟨by decide +kernel, rfl⟩
theorem dMod_closes_130 : uD prog_11_method_15_code 130 (.iconst 3) 1 131 := ⟨by decide +kernel, rfl⟩
theorem dMod_closes_131 : uD prog_11_method_15_code 131 (.iadd) 1 132 := ⟨by decide +kernel, rfl⟩
theorem dMod_closes_132 : uD prog_11_method_15_code 132 (.iconst 1) 1 133 := ⟨by decide +kernel, rfl⟩
theorem dMod_closes_133 : uD prog_11_method_15_code 133 (.bipush (-5)) 2 135 := ⟨by decide +kernel, rfl⟩
theorem dMod_closes_135 : uD prog_11_method_15_code 135 (.invokevirtual 110) 3 138 := ⟨by decide +kernel, rfl⟩
theorem dMod_closes_138 : uD prog_11_method_15_code 138 (.pop) 1 139 := ⟨by decide +kernel, rfl⟩
theorem dMod_closes_139 : uD prog_11_method_15_code 139 (.bipush (-5)) 2 141 := ⟨by decide +kernel, rfl⟩
theorem dMod_closes_141 : uD prog_11_method_15_code 141 (.ireturn) 1 142 := ⟨by decide +kernel, rfl⟩
theorem dMod_closes_142 : uD prog_11_method_15_code 142 (.aload_n 0) 1 143 := ⟨by decide +kernel, rfl⟩
theorem dMod_closes_143 : uD prog_11_method_15_code 143 (.dup) 1 144 := ⟨by decide +kernel, rfl⟩
theorem dMod_closes_144 : uD prog_11_method_15_code 144 (.getfield 94) 3 147 := ⟨by decide +kernel, rfl⟩
theorem dMod_closes_147 : uD prog_11_method_15_code 147 (.iconst 1) 1 148 := ⟨by decide +kernel, rfl⟩
theorem dMod_closes_148 : uD prog_11_method_15_code 148 (.isub) 1 149 := ⟨by decide +kernel, rfl⟩
theorem dMod_closes_149 : uD prog_11_method_15_code 149 (.putfield 94) 3 152 := ⟨by decide +kernel, rfl⟩
theorem dMod_closes_152 : uD prog_11_method_15_code 152 (.aload_n 0) 1 153 := ⟨by decide +kernel, rfl⟩
theorem dMod_closes_153 : uD prog_11_method_15_code 153 (.iconst 2) 1 154 := ⟨by decide +kernel, rfl⟩
theorem dMod_closes_154 : uD prog_11_method_15_code 154 (.aload_n 0) 1 155 := ⟨by decide +kernel, rfl⟩
theorem dMod_closes_155 : uD prog_11_method_15_code 155 (.getfield 25) 3 158 := ⟨by decide +kernel, rfl⟩
theorem dMod_closes_158 : uD prog_11_method_15_code 158 (.aload_n 0) 1 159 := ⟨by decide +kernel, rfl⟩
theorem dMod_closes_159 : uD prog_11_method_15_code 159 (.getfield 94) 3 162 := ⟨by decide +kernel, rfl⟩
theorem dMod_closes_162 : uD prog_11_method_15_code 162 (.iaload) 1 163 := ⟨by decide +kernel, rfl⟩
theorem dMod_closes_163 : uD prog_11_method_15_code 163 (.invokevirtual 101) 3 166 := ⟨by decide +kernel, rfl⟩
theorem dMod_closes_166 : uD prog_11_method_15_code 166 (.iload_n 1) 1 167 := ⟨by decide +kernel, rfl⟩
theorem dMod_closes_167 : uD prog_11_method_15_code 167 (.iconst 4) 1 168 := ⟨by decide +kernel, rfl⟩
theorem dMod_closes_168 : uD prog_11_method_15_code 168 (.iadd) 1 169 := ⟨by decide +kernel, rfl⟩
theorem dMod_closes_169 : uD prog_11_method_15_code 169 (.ireturn) 1 170 := ⟨by decide +kernel, rfl⟩
theorem dMod_readWord_0 : uD prog_11_method_16_code 0 (.iload_n 1) 1 1 := ⟨by decide +kernel, rfl⟩
theorem dMod_readWord_1 : uD prog_11_method_16_code 1 (.istore_n 2) 1 2 := ⟨by decide +kernel, rfl⟩
theorem dMod_readWord_2 : uD prog_11_method_16_code 2 (.iload_n 2) 1 3 := ⟨by decide +kernel, rfl⟩
theorem dMod_readWord_3 : uD prog_11_method_16_code 3 (.iload_n 1) 1 4 := ⟨by decide +kernel, rfl⟩
theorem dMod_readWord_4 : uD prog_11_method_16_code 4 (.bipush 8) 2 6 := ⟨by decide +kernel, rfl⟩
theorem dMod_readWord_6 : uD prog_11_method_16_code 6 (.iadd) 1 7 := ⟨by decide +kernel, rfl⟩
theorem dMod_readWord_7 : uB prog_11_method_16_code 7 (.if_icmp .ge) 10 28 := ⟨21, by decide +kernel, rfl, by decide⟩
theorem dMod_readWord_10 : uD prog_11_method_16_code 10 (.aload_n 0) 1 11 := ⟨by decide +kernel, rfl⟩
theorem dMod_readWord_11 : uD prog_11_method_16_code 11 (.iload_n 2) 1 12 := ⟨by decide +kernel, rfl⟩
theorem dMod_readWord_12 : uD prog_11_method_16_code 12 (.bipush 103) 2 14 := ⟨by decide +kernel, rfl⟩
theorem dMod_readWord_14 : uD prog_11_method_16_code 14 (.bipush 118) 2 16 := ⟨by decide +kernel, rfl⟩
theorem dMod_readWord_16 : uD prog_11_method_16_code 16 (.invokevirtual 107) 3 19 := ⟨by decide +kernel, rfl⟩
theorem dMod_readWord_19 : uB prog_11_method_16_code 19 (.ifCond .eq) 22 28 := ⟨9, by decide +kernel, rfl, by decide⟩
theorem dMod_readWord_22 : uD prog_11_method_16_code 22 (.iinc 2 1) 3 25 := ⟨by decide +kernel, rfl⟩
theorem dMod_readWord_25 : uB prog_11_method_16_code 25 .goto 28 2 := ⟨-23, by decide +kernel, rfl, by decide⟩
theorem dMod_readWord_28 : uD prog_11_method_16_code 28 (.aload_n 0) 1 29 := ⟨by decide +kernel, rfl⟩
theorem dMod_readWord_29 : uD prog_11_method_16_code 29 (.iload_n 2) 1 30 := ⟨by decide +kernel, rfl⟩
theorem dMod_readWord_30 : uD prog_11_method_16_code 30 (.bipush 103) 2 32 := ⟨by decide +kernel, rfl⟩
theorem dMod_readWord_32 : uD prog_11_method_16_code 32 (.bipush 118) 2 34 := ⟨by decide +kernel, rfl⟩
theorem dMod_readWord_34 : uD prog_11_method_16_code 34 (.invokevirtual 107) 3 37 := ⟨by decide +kernel, rfl⟩
theorem dMod_readWord_37 : uB prog_11_method_16_code 37 (.ifCond .eq) 40 52 := ⟨15, by decide +kernel, rfl, by decide⟩
theorem dMod_readWord_40 : uD prog_11_method_16_code 40 (.aload_n 0) 1 41 := ⟨by decide +kernel, rfl⟩
theorem dMod_readWord_41 : uD prog_11_method_16_code 41 (.iload_n 2) 1 42 := ⟨by decide +kernel, rfl⟩
theorem dMod_readWord_42 : uD prog_11_method_16_code 42 (.iconst 5) 1 43 := ⟨by decide +kernel, rfl⟩
theorem dMod_readWord_43 : uD prog_11_method_16_code 43 (.bipush (-5)) 2 45 := ⟨by decide +kernel, rfl⟩
theorem dMod_readWord_45 : uD prog_11_method_16_code 45 (.invokevirtual 110) 3 48 := ⟨by decide +kernel, rfl⟩
theorem dMod_readWord_48 : uD prog_11_method_16_code 48 (.pop) 1 49 := ⟨by decide +kernel, rfl⟩
theorem dMod_readWord_49 : uD prog_11_method_16_code 49 (.bipush (-5)) 2 51 := ⟨by decide +kernel, rfl⟩
theorem dMod_readWord_51 : uD prog_11_method_16_code 51 (.ireturn) 1 52 := ⟨by decide +kernel, rfl⟩
theorem dMod_readWord_52 : uD prog_11_method_16_code 52 (.aload_n 0) 1 53 := ⟨by decide +kernel, rfl⟩
theorem dMod_readWord_53 : uD prog_11_method_16_code 53 (.getfield 25) 3 56 := ⟨by decide +kernel, rfl⟩
theorem dMod_readWord_56 : uD prog_11_method_16_code 56 (.aload_n 0) 1 57 := ⟨by decide +kernel, rfl⟩
theorem dMod_readWord_57 : uD prog_11_method_16_code 57 (.getfield 94) 3 60 := ⟨by decide +kernel, rfl⟩
theorem dMod_readWord_60 : uD prog_11_method_16_code 60 (.iconst 1) 1 61 := ⟨by decide +kernel, rfl⟩
theorem dMod_readWord_61 : uD prog_11_method_16_code 61 (.isub) 1 62 := ⟨by decide +kernel, rfl⟩
theorem dMod_readWord_62 : uD prog_11_method_16_code 62 (.iaload) 1 63 := ⟨by decide +kernel, rfl⟩
theorem dMod_readWord_63 : uD prog_11_method_16_code 63 (.istore_n 3) 1 64 := ⟨by decide +kernel, rfl⟩
theorem dMod_readWord_64 : uD prog_11_method_16_code 64 (.aload_n 0) 1 65 := ⟨by decide +kernel, rfl⟩
theorem dMod_readWord_65 : uD prog_11_method_16_code 65 (.iload_n 3) 1 66 := ⟨by decide +kernel, rfl⟩
theorem dMod_readWord_66 : uD prog_11_method_16_code 66 (.iconst 5) 1 67 := ⟨by decide +kernel, rfl⟩
theorem dMod_readWord_67 : uD prog_11_method_16_code 67 (.aload_n 0) 1 68 := ⟨by decide +kernel, rfl⟩
theorem dMod_readWord_68 : uD prog_11_method_16_code 68 (.iload_n 3) 1 69 := ⟨by decide +kernel, rfl⟩
theorem dMod_readWord_69 : uD prog_11_method_16_code 69 (.iconst 5) 1 70 := ⟨by decide +kernel, rfl⟩
theorem dMod_readWord_70 : uD prog_11_method_16_code 70 (.invokevirtual 97) 3 73 := ⟨by decide +kernel, rfl⟩
theorem dMod_readWord_73 : uD prog_11_method_16_code 73 (.iconst 1) 1 74 := ⟨by decide +kernel, rfl⟩
theorem dMod_readWord_74 : uD prog_11_method_16_code 74 (.iadd) 1 75 := ⟨by decide +kernel, rfl⟩
theorem dMod_readWord_75 : uD prog_11_method_16_code 75 (.invokevirtual 113) 3 78 := ⟨by decide +kernel, rfl⟩
theorem dMod_readWord_78 : uD prog_11_method_16_code 78 (.aload_n 0) 1 79 := ⟨by decide +kernel, rfl⟩
theorem dMod_readWord_79 : uD prog_11_method_16_code 79 (.iload_n 3) 1 80 := ⟨by decide +kernel, rfl⟩
theorem dMod_readWord_80 : uD prog_11_method_16_code 80 (.bipush 7) 2 82 := ⟨by decide +kernel, rfl⟩
theorem dMod_readWord_82 : uD prog_11_method_16_code 82 (.aload_n 0) 1 83 := ⟨by decide +kernel, rfl⟩
theorem dMod_readWord_83 : uD prog_11_method_16_code 83 (.iload_n 3) 1 84 := ⟨by decide +kernel, rfl⟩
theorem dMod_readWord_84 : uD prog_11_method_16_code 84 (.iconst 5) 1 85 := ⟨by decide +kernel, rfl⟩
theorem dMod_readWord_85 : uD prog_11_method_16_code 85 (.invokevirtual 97) 3 88 := ⟨by decide +kernel, rfl⟩
theorem dMod_readWord_88 : uD prog_11_method_16_code 88 (.iconst 1) 1 89 := ⟨by decide +kernel, rfl⟩
theorem dMod_readWord_89 : uB prog_11_method_16_code 89 (.if_icmp .ne) 92 98 := ⟨9, by decide +kernel, rfl, by decide⟩
theorem dMod_readWord_92 : uD prog_11_method_16_code 92 (.iload_n 2) 1 93 := ⟨by decide +kernel, rfl⟩
theorem dMod_readWord_93 : uD prog_11_method_16_code 93 (.iload_n 1) 1 94 := ⟨by decide +kernel, rfl⟩
theorem dMod_readWord_94 : uD prog_11_method_16_code 94 (.isub) 1 95 := ⟨by decide +kernel, rfl⟩
theorem dMod_readWord_95 : uB prog_11_method_16_code 95 .goto 98 105 := ⟨10, by decide +kernel, rfl, by decide⟩
theorem dMod_readWord_98 : uD prog_11_method_16_code 98 (.aload_n 0) 1 99 := ⟨by decide +kernel, rfl⟩
theorem dMod_readWord_99 : uD prog_11_method_16_code 99 (.iload_n 3) 1 100 := ⟨by decide +kernel, rfl⟩
theorem dMod_readWord_100 : uD prog_11_method_16_code 100 (.bipush 7) 2 102 := ⟨by decide +kernel, rfl⟩
theorem dMod_readWord_102 : uD prog_11_method_16_code 102 (.invokevirtual 97) 3 105 := ⟨by decide +kernel, rfl⟩
theorem dMod_readWord_105 : uD prog_11_method_16_code 105 (.invokevirtual 113) 3 108 := ⟨by decide +kernel, rfl⟩
theorem dMod_readWord_108 : uD prog_11_method_16_code 108 (.aload_n 0) 1 109 := ⟨by decide +kernel, rfl⟩
theorem dMod_readWord_109 : uD prog_11_method_16_code 109 (.iconst 1) 1 110 := ⟨by decide +kernel, rfl⟩
theorem dMod_readWord_110 : uD prog_11_method_16_code 110 (.bipush 10) 2 112 := ⟨by decide +kernel, rfl⟩
theorem dMod_readWord_112 : uD prog_11_method_16_code 112 (.iload_n 1) 1 113 := ⟨by decide +kernel, rfl⟩
theorem dMod_readWord_113 : uD prog_11_method_16_code 113 (.imul) 1 114 := ⟨by decide +kernel, rfl⟩
theorem dMod_readWord_114 : uD prog_11_method_16_code 114 (.iload_n 2) 1 115 := ⟨by decide +kernel, rfl⟩
theorem dMod_readWord_115 : uD prog_11_method_16_code 115 (.iadd) 1 116 := ⟨by decide +kernel, rfl⟩
theorem dMod_readWord_116 : uD prog_11_method_16_code 116 (.iload_n 1) 1 117 := ⟨by decide +kernel, rfl⟩
theorem dMod_readWord_117 : uD prog_11_method_16_code 117 (.isub) 1 118 := ⟨by decide +kernel, rfl⟩
theorem dMod_readWord_118 : uD prog_11_method_16_code 118 (.invokevirtual 101) 3 121 := ⟨by decide +kernel, rfl⟩
theorem dMod_readWord_121 : uD prog_11_method_16_code 121 (.iload_n 2) 1 122 := ⟨by decide +kernel, rfl⟩
theorem dMod_readWord_122 : uD prog_11_method_16_code 122 (.ireturn) 1 123 := ⟨by decide +kernel, rfl⟩
theorem dMod_isPage_0 : uD prog_11_method_17_code 0 (.aload_n 0) 1 1 := ⟨by decide +kernel, rfl⟩
theorem dMod_isPage_1 : uD prog_11_method_17_code 1 (.iconst 0) 1 2 := ⟨by decide +kernel, rfl⟩
theorem dMod_isPage_2 : uD prog_11_method_17_code 2 (.putfield 94) 3 5 := ⟨by decide +kernel, rfl⟩
theorem dMod_isPage_5 : uD prog_11_method_17_code 5 (.aload_n 0) 1 6 := ⟨by decide +kernel, rfl⟩
theorem dMod_isPage_6 : uD prog_11_method_17_code 6 (.iconst 0) 1 7 := ⟨by decide +kernel, rfl⟩
theorem dMod_isPage_7 : uD prog_11_method_17_code 7 (.putfield 124) 3 10 := ⟨by decide +kernel, rfl⟩
theorem dMod_isPage_10 : uD prog_11_method_17_code 10 (.aload_n 0) 1 11 := ⟨by decide +kernel, rfl⟩
theorem dMod_isPage_11 : uD prog_11_method_17_code 11 (.iconst 0) 1 12 := ⟨by decide +kernel, rfl⟩
theorem dMod_isPage_12 : uD prog_11_method_17_code 12 (.putfield 91) 3 15 := ⟨by decide +kernel, rfl⟩
theorem dMod_isPage_15 : uD prog_11_method_17_code 15 (.aload_n 0) 1 16 := ⟨by decide +kernel, rfl⟩
theorem dMod_isPage_16 : uD prog_11_method_17_code 16 (.iconst 0) 1 17 := ⟨by decide +kernel, rfl⟩
theorem dMod_isPage_17 : uD prog_11_method_17_code 17 (.putfield 104) 3 20 := ⟨by decide +kernel, rfl⟩
theorem dMod_isPage_20 : uD prog_11_method_17_code 20 (.iconst 0) 1 21 := ⟨by decide +kernel, rfl⟩
theorem dMod_isPage_21 : uD prog_11_method_17_code 21 (.istore_n 1) 1 22 := ⟨by decide +kernel, rfl⟩
theorem dMod_isPage_22 : uD prog_11_method_17_code 22 (.iload_n 1) 1 23 := ⟨by decide +kernel, rfl⟩
theorem dMod_isPage_23 : uD prog_11_method_17_code 23 (.aload_n 0) 1 24 := ⟨by decide +kernel, rfl⟩
theorem dMod_isPage_24 : uD prog_11_method_17_code 24 (.getfield 82) 3 27 := ⟨by decide +kernel, rfl⟩
theorem dMod_isPage_27 : uB prog_11_method_17_code 27 (.if_icmp .ge) 30 153 := ⟨126, by decide +kernel, rfl, by decide⟩
theorem dMod_isPage_30 : uD prog_11_method_17_code 30 (.iload_n 1) 1 31 := ⟨by decide +kernel, rfl⟩
theorem dMod_isPage_31 : uB prog_11_method_17_code 31 (.ifCond .eq) 34 41 := ⟨10, by decide +kernel, rfl, by decide⟩
theorem dMod_isPage_34 : uD prog_11_method_17_code 34 (.aload_n 0) 1 35 := ⟨by decide +kernel, rfl⟩
theorem dMod_isPage_35 : uD prog_11_method_17_code 35 (.getfield 94) 3 38 := ⟨by decide +kernel, rfl⟩
theorem dMod_isPage_38 : uB prog_11_method_17_code 38 (.ifCond .le) 41 153 := ⟨115, by decide +kernel, rfl, by decide⟩
theorem dMod_isPage_41 : uD prog_11_method_17_code 41 (.aload_n 0) 1 42 := ⟨by decide +kernel, rfl⟩
theorem dMod_isPage_42 : uD prog_11_method_17_code 42 (.getfield 94) 3 45 := ⟨by decide +kernel, rfl⟩
theorem dMod_isPage_45 : uB prog_11_method_17_code 45 (.ifCond .le) 48 69 := ⟨24, by decide +kernel, rfl, by decide⟩
theorem dMod_isPage_48 : uD prog_11_method_17_code 48 (.aload_n 0) 1 49 := ⟨by decide +kernel, rfl⟩
theorem dMod_isPage_49 : uD prog_11_method_17_code 49 (.iload_n 1) 1 50 := ⟨by decide +kernel, rfl⟩
theorem dMod_isPage_50 : uD prog_11_method_17_code 50 (.bipush 103) 2 52 := ⟨by decide +kernel, rfl⟩
theorem dMod_isPage_52 : uD prog_11_method_17_code 52 (.bipush 118) 2 54 := ⟨by decide +kernel, rfl⟩
theorem dMod_isPage_54 : uD prog_11_method_17_code 54 (.invokevirtual 107) 3 57 := ⟨by decide +kernel, rfl⟩
theorem dMod_isPage_57 : uB prog_11_method_17_code 57 (.ifCond .eq) 60 69 := ⟨12, by decide +kernel, rfl, by decide⟩
theorem dMod_isPage_60 : uD prog_11_method_17_code 60 (.aload_n 0) 1 61 := ⟨by decide +kernel, rfl⟩
theorem dMod_isPage_61 : uD prog_11_method_17_code 61 (.iload_n 1) 1 62 := ⟨by decide +kernel, rfl⟩
theorem dMod_isPage_62 : uD prog_11_method_17_code 62 (.invokevirtual 130) 3 65 := ⟨by decide +kernel, rfl⟩
theorem dMod_isPage_65 : uD prog_11_method_17_code 65 (.istore_n 1) 1 66 := ⟨by decide +kernel, rfl⟩
theorem dMod_isPage_66 : uB prog_11_method_17_code 66 .goto 69 147 := ⟨81, by decide +kernel, rfl, by decide⟩
theorem dMod_isPage_69 : uD prog_11_method_17_code 69 (.aload_n 0) 1 70 := ⟨by decide +kernel, rfl⟩
theorem dMod_isPage_70 : uD prog_11_method_17_code 70 (.iload_n 1) 1 71 := ⟨by decide +kernel, rfl⟩
theorem dMod_isPage_71 : uD prog_11_method_17_code 71 (.bipush 60) 2 73 := ⟨by decide +kernel, rfl⟩
theorem dMod_isPage_73 : uD prog_11_method_17_code 73 (.bipush 60) 2 75 := ⟨by decide +kernel, rfl⟩
theorem dMod_isPage_75 : uD prog_11_method_17_code 75 (.invokevirtual 107) 3 78 := ⟨by decide +kernel, rfl⟩
theorem dMod_isPage_78 : uB prog_11_method_17_code 78 (.ifCond .ne) 81 90 := ⟨12, by decide +kernel, rfl, by decide⟩
theorem dMod_isPage_81 : uD prog_11_method_17_code 81 (.aload_n 0) 1 82 := ⟨by decide +kernel, rfl⟩
theorem dMod_isPage_82 : uD prog_11_method_17_code 82 (.iload_n 1) 1 83 := ⟨by decide +kernel, rfl⟩
theorem dMod_isPage_83 : uD prog_11_method_17_code 83 (.iconst 1) 1 84 := ⟨by decide +kernel, rfl⟩
theorem dMod_isPage_84 : uD prog_11_method_17_code 84 (.bipush (-5)) 2 86 := ⟨by decide +kernel, rfl⟩
theorem dMod_isPage_86 : uD prog_11_method_17_code 86 (.invokevirtual 110) 3 89 := ⟨by decide +kernel, rfl⟩
theorem dMod_isPage_89 : uD prog_11_method_17_code 89 (.ireturn) 1 90 := ⟨by decide +kernel, rfl⟩
theorem dMod_isPage_90 : uD prog_11_method_17_code 90 (.aload_n 0) 1 91 := ⟨by decide +kernel, rfl⟩
theorem dMod_isPage_91 : uD prog_11_method_17_code 91 (.iload_n 1) 1 92 := ⟨by decide +kernel, rfl⟩
theorem dMod_isPage_92 : uD prog_11_method_17_code 92 (.iconst 1) 1 93 := ⟨by decide +kernel, rfl⟩
theorem dMod_isPage_93 : uD prog_11_method_17_code 93 (.iadd) 1 94 := ⟨by decide +kernel, rfl⟩
theorem dMod_isPage_94 : uD prog_11_method_17_code 94 (.bipush 47) 2 96 := ⟨by decide +kernel, rfl⟩
theorem dMod_isPage_96 : uD prog_11_method_17_code 96 (.bipush 47) 2 98 := ⟨by decide +kernel, rfl⟩
theorem dMod_isPage_98 : uD prog_11_method_17_code 98 (.invokevirtual 107) 3 101 := ⟨by decide +kernel, rfl⟩
theorem dMod_isPage_101 : uB prog_11_method_17_code 101 (.ifCond .eq) 104 113 := ⟨12, by decide +kernel, rfl, by decide⟩
theorem dMod_isPage_104 : uD prog_11_method_17_code 104 (.aload_n 0) 1 105 := ⟨by decide +kernel, rfl⟩
theorem dMod_isPage_105 : uD prog_11_method_17_code 105 (.iload_n 1) 1 106 := ⟨by decide +kernel, rfl⟩
theorem dMod_isPage_106 : uD prog_11_method_17_code 106 (.invokevirtual 134) 3 109 := ⟨by decide +kernel, rfl⟩
theorem dMod_isPage_109 : uD prog_11_method_17_code 109 (.istore_n 1) 1 110 := ⟨by decide +kernel, rfl⟩
theorem dMod_isPage_110 : uB prog_11_method_17_code 110 .goto 113 147 := ⟨37, by decide +kernel, rfl, by decide⟩
theorem dMod_isPage_113 : uD prog_11_method_17_code 113 (.aload_n 0) 1 114 := ⟨by decide +kernel, rfl⟩
theorem dMod_isPage_114 : uD prog_11_method_17_code 114 (.iload_n 1) 1 115 := ⟨by decide +kernel, rfl⟩
theorem dMod_isPage_115 : uD prog_11_method_17_code 115 (.iconst 1) 1 116 := ⟨by decide +kernel, rfl⟩
theorem dMod_isPage_116 : uD prog_11_method_17_code 116 (.iadd) 1 117 := ⟨by decide +kernel, rfl⟩
theorem dMod_isPage_117 : uD prog_11_method_17_code 117 (.bipush 97) 2 119 := ⟨by decide +kernel, rfl⟩
theorem dMod_isPage_119 : uD prog_11_method_17_code 119 (.bipush 102) 2 121 := ⟨by decide +kernel, rfl⟩
theorem dMod_isPage_121 : uD prog_11_method_17_code 121 (.invokevirtual 107) 3 124 := ⟨by decide +kernel, rfl⟩
theorem dMod_isPage_124 : uB prog_11_method_17_code 124 (.ifCond .eq) 127 136 := ⟨12, by decide +kernel, rfl, by decide⟩
theorem dMod_isPage_127 : uD prog_11_method_17_code 127 (.aload_n 0) 1 128 := ⟨by decide +kernel, rfl⟩
theorem dMod_isPage_128 : uD prog_11_method_17_code 128 (.iload_n 1) 1 129 := ⟨by decide +kernel, rfl⟩
theorem dMod_isPage_129 : uD prog_11_method_17_code 129 (.invokevirtual 137) 3 132 := ⟨by decide +kernel, rfl⟩
theorem dMod_isPage_132 : uD prog_11_method_17_code 132 (.istore_n 1) 1 133 := ⟨by decide +kernel, rfl⟩
theorem dMod_isPage_133 : uB prog_11_method_17_code 133 .goto 136 147 := ⟨14, by decide +kernel, rfl, by decide⟩
theorem dMod_isPage_136 : uD prog_11_method_17_code 136 (.aload_n 0) 1 137 := ⟨by decide +kernel, rfl⟩
theorem dMod_isPage_137 : uD prog_11_method_17_code 137 (.iload_n 1) 1 138 := ⟨by decide +kernel, rfl⟩
theorem dMod_isPage_138 : uD prog_11_method_17_code 138 (.iconst 1) 1 139 := ⟨by decide +kernel, rfl⟩
theorem dMod_isPage_139 : uD prog_11_method_17_code 139 (.iadd) 1 140 := ⟨by decide +kernel, rfl⟩
theorem dMod_isPage_140 : uD prog_11_method_17_code 140 (.iconst 1) 1 141 := ⟨by decide +kernel, rfl⟩
theorem dMod_isPage_141 : uD prog_11_method_17_code 141 (.bipush (-5)) 2 143 := ⟨by decide +kernel, rfl⟩
theorem dMod_isPage_143 : uD prog_11_method_17_code 143 (.invokevirtual 110) 3 146 := ⟨by decide +kernel, rfl⟩
theorem dMod_isPage_146 : uD prog_11_method_17_code 146 (.ireturn) 1 147 := ⟨by decide +kernel, rfl⟩
theorem dMod_isPage_147 : uD prog_11_method_17_code 147 (.iload_n 1) 1 148 := ⟨by decide +kernel, rfl⟩
theorem dMod_isPage_148 : uB prog_11_method_17_code 148 (.ifCond .ge) 151 22 := ⟨-126, by decide +kernel, rfl, by decide⟩
theorem dMod_isPage_151 : uD prog_11_method_17_code 151 (.iconst 0) 1 152 := ⟨by decide +kernel, rfl⟩
theorem dMod_isPage_152 : uD prog_11_method_17_code 152 (.ireturn) 1 153 := ⟨by decide +kernel, rfl⟩
theorem dMod_isPage_153 : uD prog_11_method_17_code 153 (.iload_n 1) 1 154 := ⟨by decide +kernel, rfl⟩
theorem dMod_isPage_154 : uD prog_11_method_17_code 154 (.aload_n 0) 1 155 := ⟨by decide +kernel, rfl⟩
theorem dMod_isPage_155 : uD prog_11_method_17_code 155 (.getfield 82) 3 158 := ⟨by decide +kernel, rfl⟩
theorem dMod_isPage_158 : uB prog_11_method_17_code 158 (.if_icmp .ne) 161 175 := ⟨17, by decide +kernel, rfl, by decide⟩
theorem dMod_isPage_161 : uD prog_11_method_17_code 161 (.aload_n 0) 1 162 := ⟨by decide +kernel, rfl⟩
theorem dMod_isPage_162 : uD prog_11_method_17_code 162 (.getfield 94) 3 165 := ⟨by decide +kernel, rfl⟩
theorem dMod_isPage_165 : uB prog_11_method_17_code 165 (.ifCond .ne) 168 175 := ⟨10, by decide +kernel, rfl, by decide⟩
theorem dMod_isPage_168 : uD prog_11_method_17_code 168 (.aload_n 0) 1 169 := ⟨by decide +kernel, rfl⟩
theorem dMod_isPage_169 : uD prog_11_method_17_code 169 (.getfield 82) 3 172 := ⟨by decide +kernel, rfl⟩
theorem dMod_isPage_172 : uB prog_11_method_17_code 172 (.ifCond .gt) 175 187 := ⟨15, by decide +kernel, rfl, by decide⟩
theorem dMod_isPage_175 : uD prog_11_method_17_code 175 (.aload_n 0) 1 176 := ⟨by decide +kernel, rfl⟩
theorem dMod_isPage_176 : uD prog_11_method_17_code 176 (.iload_n 1) 1 177 := ⟨by decide +kernel, rfl⟩
theorem dMod_isPage_177 : uD prog_11_method_17_code 177 (.bipush 6) 2 179 := ⟨by decide +kernel, rfl⟩
theorem dMod_isPage_179 : uD prog_11_method_17_code 179 (.bipush (-5)) 2 181 := ⟨by decide +kernel, rfl⟩
theorem dMod_isPage_181 : uD prog_11_method_17_code 181 (.invokevirtual 110) 3 184 := ⟨by decide +kernel, rfl⟩
theorem dMod_isPage_184 : uB prog_11_method_17_code 184 (.ifCond .eq) 187 191 := ⟨7, by decide +kernel, rfl, by decide⟩
theorem dMod_isPage_187 : uD prog_11_method_17_code 187 (.iconst 1) 1 188 := ⟨by decide +kernel, rfl⟩
theorem dMod_isPage_188 : uB prog_11_method_17_code 188 .goto 191 192 := ⟨4, by decide +kernel, rfl, by decide⟩
theorem dMod_isPage_191 : uD prog_11_method_17_code 191 (.iconst 0) 1 192 := ⟨by decide +kernel, rfl⟩
theorem dMod_isPage_192 : uD prog_11_method_17_code 192 (.ireturn) 1 193 := ⟨by decide +kernel, rfl⟩
theorem dMod_takesText_0 : uD prog_11_method_18_code 0 (.aload_n 0) 1 1 := ⟨by decide +kernel, rfl⟩
theorem dMod_takesText_1 : uD prog_11_method_18_code 1 (.aload_n 0) 1 2 := ⟨by decide +kernel, rfl⟩
theorem dMod_takesText_2 : uD prog_11_method_18_code 2 (.getfield 140) 3 5 := ⟨by decide +kernel, rfl⟩
theorem dMod_takesText_5 : uD prog_11_method_18_code 5 (.putfield 82) 3 8 := ⟨by decide +kernel, rfl⟩
theorem dMod_takesText_8 : uD prog_11_method_18_code 8 (.iconst 0) 1 9 := ⟨by decide +kernel, rfl⟩
theorem dMod_takesText_9 : uD prog_11_method_18_code 9 (.istore_n 1) 1 10 := ⟨by decide +kernel, rfl⟩
theorem dMod_takesText_10 : uD prog_11_method_18_code 10 (.iload_n 1) 1 11 := ⟨by decide +kernel, rfl⟩
theorem dMod_takesText_11 : uD prog_11_method_18_code 11 (.aload_n 0) 1 12 := ⟨by decide +kernel, rfl⟩
theorem dMod_takesText_12 : uD prog_11_method_18_code 12 (.getfield 140) 3 15 := ⟨by decide +kernel, rfl⟩
theorem dMod_takesText_15 : uB prog_11_method_18_code 15 (.if_icmp .ge) 18 36 := ⟨21, by decide +kernel, rfl, by decide⟩
theorem dMod_takesText_18 : uD prog_11_method_18_code 18 (.aload_n 0) 1 19 := ⟨by decide +kernel, rfl⟩
theorem dMod_takesText_19 : uD prog_11_method_18_code 19 (.getfield 19) 3 22 := ⟨by decide +kernel, rfl⟩
theorem dMod_takesText_22 : uD prog_11_method_18_code 22 (.iload_n 1) 1 23 := ⟨by decide +kernel, rfl⟩
theorem dMod_takesText_23 : uD prog_11_method_18_code 23 (.aload_n 0) 1 24 := ⟨by decide +kernel, rfl⟩
theorem dMod_takesText_24 : uD prog_11_method_18_code 24 (.getfield 61) 3 27 := ⟨by decide +kernel, rfl⟩
theorem dMod_takesText_27 : uD prog_11_method_18_code 27 (.iload_n 1) 1 28 := ⟨by decide +kernel, rfl⟩
theorem dMod_takesText_28 : uD prog_11_method_18_code 28 (.caload) 1 29 := ⟨by decide +kernel, rfl⟩
theorem dMod_takesText_29 : uD prog_11_method_18_code 29 (.iastore) 1 30 := ⟨by decide +kernel, rfl⟩
theorem dMod_takesText_30 : uD prog_11_method_18_code 30 (.iinc 1 1) 3 33 := ⟨by decide +kernel, rfl⟩
theorem dMod_takesText_33 : uB prog_11_method_18_code 33 .goto 36 10 := ⟨-23, by decide +kernel, rfl, by decide⟩
theorem dMod_takesText_36 : uD prog_11_method_18_code 36 (.iconst 0) 1 37 := ⟨by decide +kernel, rfl⟩
theorem dMod_takesText_37 : uD prog_11_method_18_code 37 (.istore_n 1) 1 38 := ⟨by decide +kernel, rfl⟩
theorem dMod_takesText_38 : uD prog_11_method_18_code 38 (.iload_n 1) 1 39 := ⟨by decide +kernel, rfl⟩
theorem dMod_takesText_39 : uD prog_11_method_18_code 39 (.bipush 6) 2 41 := ⟨by decide +kernel, rfl⟩
theorem dMod_takesText_41 : uB prog_11_method_18_code 41 (.if_icmp .ge) 44 62 := ⟨21, by decide +kernel, rfl, by decide⟩
theorem dMod_takesText_44 : uD prog_11_method_18_code 44 (.aload_n 0) 1 45 := ⟨by decide +kernel, rfl⟩
theorem dMod_takesText_45 : uD prog_11_method_18_code 45 (.getfield 22) 3 48 := ⟨by decide +kernel, rfl⟩
theorem dMod_takesText_48 : uD prog_11_method_18_code 48 (.iload_n 1) 1 49 := ⟨by decide +kernel, rfl⟩
theorem dMod_takesText_49 : uD prog_11_method_18_code 49 (.aload_n 0) 1 50 := ⟨by decide +kernel, rfl⟩
theorem dMod_takesText_50 : uD prog_11_method_18_code 50 (.getfield 7) 3 53 := ⟨by decide +kernel, rfl⟩
theorem dMod_takesText_53 : uD prog_11_method_18_code 53 (.iload_n 1) 1 54 := ⟨by decide +kernel, rfl⟩
theorem dMod_takesText_54 : uD prog_11_method_18_code 54 (.iaload) 1 55 := ⟨by decide +kernel, rfl⟩
theorem dMod_takesText_55 : uD prog_11_method_18_code 55 (.iastore) 1 56 := ⟨by decide +kernel, rfl⟩
theorem dMod_takesText_56 : uD prog_11_method_18_code 56 (.iinc 1 1) 3 59 := ⟨by decide +kernel, rfl⟩
theorem dMod_takesText_59 : uB prog_11_method_18_code 59 .goto 62 38 := ⟨-21, by decide +kernel, rfl, by decide⟩
theorem dMod_takesText_62 : uD prog_11_method_18_code 62 (.return_) 1 63 := ⟨by decide +kernel, rfl⟩
theorem dMod_takesPage_0 : uD prog_11_method_19_code 0 (.bipush 7) 2 2 := ⟨by decide +kernel, rfl⟩
theorem dMod_takesPage_2 : uD prog_11_method_19_code 2 (.bipush 107) 2 4 := ⟨by decide +kernel, rfl⟩
theorem dMod_takesPage_4 : uD prog_11_method_19_code 4 (.iload_n 1) 1 5 := ⟨by decide +kernel, rfl⟩
theorem dMod_takesPage_5 : uD prog_11_method_19_code 5 (.imul) 1 6 := ⟨by decide +kernel, rfl⟩
theorem dMod_takesPage_6 : uD prog_11_method_19_code 6 (.iadd) 1 7 := ⟨by decide +kernel, rfl⟩
theorem dMod_takesPage_7 : uD prog_11_method_19_code 7 (.istore_n 2) 1 8 := ⟨by decide +kernel, rfl⟩
theorem dMod_takesPage_8 : uD prog_11_method_19_code 8 (.aload_n 0) 1 9 := ⟨by decide +kernel, rfl⟩
theorem dMod_takesPage_9 : uD prog_11_method_19_code 9 (.aload_n 0) 1 10 := ⟨by decide +kernel, rfl⟩
theorem dMod_takesPage_10 : uD prog_11_method_19_code 10 (.getfield 7) 3 13 := ⟨by decide +kernel, rfl⟩
theorem dMod_takesPage_13 : uD prog_11_method_19_code 13 (.iload_n 2) 1 14 := ⟨by decide +kernel, rfl⟩
theorem dMod_takesPage_14 : uD prog_11_method_19_code 14 (.iaload) 1 15 := ⟨by decide +kernel, rfl⟩
theorem dMod_takesPage_15 : uD prog_11_method_19_code 15 (.putfield 82) 3 18 := ⟨by decide +kernel, rfl⟩
theorem dMod_takesPage_18 : uD prog_11_method_19_code 18 (.iconst 0) 1 19 := ⟨by decide +kernel, rfl⟩
theorem dMod_takesPage_19 : uD prog_11_method_19_code 19 (.istore_n 3) 1 20 := ⟨by decide +kernel, rfl⟩
theorem dMod_takesPage_20 : uD prog_11_method_19_code 20 (.iload_n 3) 1 21 := ⟨by decide +kernel, rfl⟩
theorem dMod_takesPage_21 : uD prog_11_method_19_code 21 (.aload_n 0) 1 22 := ⟨by decide +kernel, rfl⟩
theorem dMod_takesPage_22 : uD prog_11_method_19_code 22 (.getfield 82) 3 25 := ⟨by decide +kernel, rfl⟩
theorem dMod_takesPage_25 : uB prog_11_method_19_code 25 (.if_icmp .ge) 28 50 := ⟨25, by decide +kernel, rfl, by decide⟩
theorem dMod_takesPage_28 : uD prog_11_method_19_code 28 (.aload_n 0) 1 29 := ⟨by decide +kernel, rfl⟩
theorem dMod_takesPage_29 : uD prog_11_method_19_code 29 (.getfield 19) 3 32 := ⟨by decide +kernel, rfl⟩
theorem dMod_takesPage_32 : uD prog_11_method_19_code 32 (.iload_n 3) 1 33 := ⟨by decide +kernel, rfl⟩
theorem dMod_takesPage_33 : uD prog_11_method_19_code 33 (.aload_n 0) 1 34 := ⟨by decide +kernel, rfl⟩
theorem dMod_takesPage_34 : uD prog_11_method_19_code 34 (.getfield 7) 3 37 := ⟨by decide +kernel, rfl⟩
theorem dMod_takesPage_37 : uD prog_11_method_19_code 37 (.iload_n 2) 1 38 := ⟨by decide +kernel, rfl⟩
theorem dMod_takesPage_38 : uD prog_11_method_19_code 38 (.iconst 1) 1 39 := ⟨by decide +kernel, rfl⟩
theorem dMod_takesPage_39 : uD prog_11_method_19_code 39 (.iadd) 1 40 := ⟨by decide +kernel, rfl⟩
theorem dMod_takesPage_40 : uD prog_11_method_19_code 40 (.iload_n 3) 1 41 := ⟨by decide +kernel, rfl⟩
theorem dMod_takesPage_41 : uD prog_11_method_19_code 41 (.iadd) 1 42 := ⟨by decide +kernel, rfl⟩
theorem dMod_takesPage_42 : uD prog_11_method_19_code 42 (.iaload) 1 43 := ⟨by decide +kernel, rfl⟩
theorem dMod_takesPage_43 : uD prog_11_method_19_code 43 (.iastore) 1 44 := ⟨by decide +kernel, rfl⟩
theorem dMod_takesPage_44 : uD prog_11_method_19_code 44 (.iinc 3 1) 3 47 := ⟨by decide +kernel, rfl⟩
theorem dMod_takesPage_47 : uB prog_11_method_19_code 47 .goto 50 20 := ⟨-27, by decide +kernel, rfl, by decide⟩
theorem dMod_takesPage_50 : uD prog_11_method_19_code 50 (.iconst 0) 1 51 := ⟨by decide +kernel, rfl⟩
theorem dMod_takesPage_51 : uD prog_11_method_19_code 51 (.istore_n 3) 1 52 := ⟨by decide +kernel, rfl⟩
theorem dMod_takesPage_52 : uD prog_11_method_19_code 52 (.iload_n 3) 1 53 := ⟨by decide +kernel, rfl⟩
theorem dMod_takesPage_53 : uD prog_11_method_19_code 53 (.bipush 6) 2 55 := ⟨by decide +kernel, rfl⟩
theorem dMod_takesPage_55 : uB prog_11_method_19_code 55 (.if_icmp .ge) 58 81 := ⟨26, by decide +kernel, rfl, by decide⟩
theorem dMod_takesPage_58 : uD prog_11_method_19_code 58 (.aload_n 0) 1 59 := ⟨by decide +kernel, rfl⟩
theorem dMod_takesPage_59 : uD prog_11_method_19_code 59 (.getfield 22) 3 62 := ⟨by decide +kernel, rfl⟩
theorem dMod_takesPage_62 : uD prog_11_method_19_code 62 (.iload_n 3) 1 63 := ⟨by decide +kernel, rfl⟩
theorem dMod_takesPage_63 : uD prog_11_method_19_code 63 (.aload_n 0) 1 64 := ⟨by decide +kernel, rfl⟩
theorem dMod_takesPage_64 : uD prog_11_method_19_code 64 (.getfield 7) 3 67 := ⟨by decide +kernel, rfl⟩
theorem dMod_takesPage_67 : uD prog_11_method_19_code 67 (.iload_n 2) 1 68 := ⟨by decide +kernel, rfl⟩
theorem dMod_takesPage_68 : uD prog_11_method_19_code 68 (.bipush 101) 2 70 := ⟨by decide +kernel, rfl⟩
theorem dMod_takesPage_70 : uD prog_11_method_19_code 70 (.iadd) 1 71 := ⟨by decide +kernel, rfl⟩
theorem dMod_takesPage_71 : uD prog_11_method_19_code 71 (.iload_n 3) 1 72 := ⟨by decide +kernel, rfl⟩
theorem dMod_takesPage_72 : uD prog_11_method_19_code 72 (.iadd) 1 73 := ⟨by decide +kernel, rfl⟩
theorem dMod_takesPage_73 : uD prog_11_method_19_code 73 (.iaload) 1 74 := ⟨by decide +kernel, rfl⟩
theorem dMod_takesPage_74 : uD prog_11_method_19_code 74 (.iastore) 1 75 := ⟨by decide +kernel, rfl⟩
theorem dMod_takesPage_75 : uD prog_11_method_19_code 75 (.iinc 3 1) 3 78 := ⟨by decide +kernel, rfl⟩
theorem dMod_takesPage_78 : uB prog_11_method_19_code 78 .goto 81 52 := ⟨-26, by decide +kernel, rfl, by decide⟩
theorem dMod_takesPage_81 : uD prog_11_method_19_code 81 (.aload_n 0) 1 82 := ⟨by decide +kernel, rfl⟩
theorem dMod_takesPage_82 : uD prog_11_method_19_code 82 (.invokevirtual 143) 3 85 := ⟨by decide +kernel, rfl⟩
theorem dMod_takesPage_85 : uD prog_11_method_19_code 85 (.pop) 1 86 := ⟨by decide +kernel, rfl⟩
theorem dMod_takesPage_86 : uD prog_11_method_19_code 86 (.return_) 1 87 := ⟨by decide +kernel, rfl⟩
theorem dMod_forgets_0 : uD prog_11_method_20_code 0 (.aload_n 0) 1 1 := ⟨by decide +kernel, rfl⟩
theorem dMod_forgets_1 : uD prog_11_method_20_code 1 (.iconst 0) 1 2 := ⟨by decide +kernel, rfl⟩
theorem dMod_forgets_2 : uD prog_11_method_20_code 2 (.putfield 147) 3 5 := ⟨by decide +kernel, rfl⟩
theorem dMod_forgets_5 : uD prog_11_method_20_code 5 (.iconst 0) 1 6 := ⟨by decide +kernel, rfl⟩
theorem dMod_forgets_6 : uD prog_11_method_20_code 6 (.istore_n 1) 1 7 := ⟨by decide +kernel, rfl⟩
theorem dMod_forgets_7 : uD prog_11_method_20_code 7 (.iload_n 1) 1 8 := ⟨by decide +kernel, rfl⟩
theorem dMod_forgets_8 : uD prog_11_method_20_code 8 (.bipush 7) 2 10 := ⟨by decide +kernel, rfl⟩
theorem dMod_forgets_10 : uB prog_11_method_20_code 10 (.if_icmp .ge) 13 26 := ⟨16, by decide +kernel, rfl, by decide⟩
theorem dMod_forgets_13 : uD prog_11_method_20_code 13 (.aload_n 0) 1 14 := ⟨by decide +kernel, rfl⟩
theorem dMod_forgets_14 : uD prog_11_method_20_code 14 (.getfield 43) 3 17 := ⟨by decide +kernel, rfl⟩
theorem dMod_forgets_17 : uD prog_11_method_20_code 17 (.iload_n 1) 1 18 := ⟨by decide +kernel, rfl⟩
theorem dMod_forgets_18 : uD prog_11_method_20_code 18 (.iconst 0) 1 19 := ⟨by decide +kernel, rfl⟩
theorem dMod_forgets_19 : uD prog_11_method_20_code 19 (.iastore) 1 20 := ⟨by decide +kernel, rfl⟩
theorem dMod_forgets_20 : uD prog_11_method_20_code 20 (.iinc 1 1) 3 23 := ⟨by decide +kernel, rfl⟩
theorem dMod_forgets_23 : uB prog_11_method_20_code 23 .goto 26 7 := ⟨-16, by decide +kernel, rfl, by decide⟩
theorem dMod_forgets_26 : uD prog_11_method_20_code 26 (.iconst 0) 1 27 := ⟨by decide +kernel, rfl⟩
theorem dMod_forgets_27 : uD prog_11_method_20_code 27 (.istore_n 1) 1 28 := ⟨by decide +kernel, rfl⟩
theorem dMod_forgets_28 : uD prog_11_method_20_code 28 (.iload_n 1) 1 29 := ⟨by decide +kernel, rfl⟩
theorem dMod_forgets_29 : uD prog_11_method_20_code 29 (.bipush 6) 2 31 := ⟨by decide +kernel, rfl⟩
theorem dMod_forgets_31 : uB prog_11_method_20_code 31 (.if_icmp .ge) 34 47 := ⟨16, by decide +kernel, rfl, by decide⟩
theorem dMod_forgets_34 : uD prog_11_method_20_code 34 (.aload_n 0) 1 35 := ⟨by decide +kernel, rfl⟩
theorem dMod_forgets_35 : uD prog_11_method_20_code 35 (.getfield 46) 3 38 := ⟨by decide +kernel, rfl⟩
theorem dMod_forgets_38 : uD prog_11_method_20_code 38 (.iload_n 1) 1 39 := ⟨by decide +kernel, rfl⟩
theorem dMod_forgets_39 : uD prog_11_method_20_code 39 (.iconst 0) 1 40 := ⟨by decide +kernel, rfl⟩
theorem dMod_forgets_40 : uD prog_11_method_20_code 40 (.iastore) 1 41 := ⟨by decide +kernel, rfl⟩
theorem dMod_forgets_41 : uD prog_11_method_20_code 41 (.iinc 1 1) 3 44 := ⟨by decide +kernel, rfl⟩
theorem dMod_forgets_44 : uB prog_11_method_20_code 44 .goto 47 28 := ⟨-16, by decide +kernel, rfl, by decide⟩
theorem dMod_forgets_47 : uD prog_11_method_20_code 47 (.iconst 0) 1 48 := ⟨by decide +kernel, rfl⟩
theorem dMod_forgets_48 : uD prog_11_method_20_code 48 (.istore_n 1) 1 49 := ⟨by decide +kernel, rfl⟩
theorem dMod_forgets_49 : uD prog_11_method_20_code 49 (.iload_n 1) 1 50 := ⟨by decide +kernel, rfl⟩
theorem dMod_forgets_50 : uD prog_11_method_20_code 50 (.bipush 24) 2 52 := ⟨by decide +kernel, rfl⟩
theorem dMod_forgets_52 : uB prog_11_method_20_code 52 (.if_icmp .ge) 55 69 := ⟨17, by decide +kernel, rfl, by decide⟩
theorem dMod_forgets_55 : uD prog_11_method_20_code 55 (.aload_n 0) 1 56 := ⟨by decide +kernel, rfl⟩
theorem dMod_forgets_56 : uD prog_11_method_20_code 56 (.getfield 49) 3 59 := ⟨by decide +kernel, rfl⟩
theorem dMod_forgets_59 : uD prog_11_method_20_code 59 (.iload_n 1) 1 60 := ⟨by decide +kernel, rfl⟩
theorem dMod_forgets_60 : uD prog_11_method_20_code 60 (.bipush (-5)) 2 62 := ⟨by decide +kernel, rfl⟩
theorem dMod_forgets_62 : uD prog_11_method_20_code 62 (.iastore) 1 63 := ⟨by decide +kernel, rfl⟩
theorem dMod_forgets_63 : uD prog_11_method_20_code 63 (.iinc 1 1) 3 66 := ⟨by decide +kernel, rfl⟩
theorem dMod_forgets_66 : uB prog_11_method_20_code 66 .goto 69 49 := ⟨-17, by decide +kernel, rfl, by decide⟩
theorem dMod_forgets_69 : uD prog_11_method_20_code 69 (.return_) 1 70 := ⟨by decide +kernel, rfl⟩
theorem dMod_codes_0 : uD prog_11_method_21_code 0 (.aload_n 0) 1 1 := ⟨by decide +kernel, rfl⟩
theorem dMod_codes_1 : uD prog_11_method_21_code 1 (.getfield 55) 3 4 := ⟨by decide +kernel, rfl⟩
theorem dMod_codes_4 : uD prog_11_method_21_code 4 (.sipush 400) 3 7 := ⟨by decide +kernel, rfl⟩
theorem dMod_codes_7 : uD prog_11_method_21_code 7 (.iload_n 1) 1 8 := ⟨by decide +kernel, rfl⟩
theorem dMod_codes_8 : uD prog_11_method_21_code 8 (.imul) 1 9 := ⟨by decide +kernel, rfl⟩
theorem dMod_codes_9 : uD prog_11_method_21_code 9 (.aload_n 0) 1 10 := ⟨by decide +kernel, rfl⟩
theorem dMod_codes_10 : uD prog_11_method_21_code 10 (.getfield 58) 3 13 := ⟨by decide +kernel, rfl⟩
theorem dMod_codes_13 : uD prog_11_method_21_code 13 (.iload_n 1) 1 14 := ⟨by decide +kernel, rfl⟩
theorem dMod_codes_14 : uD prog_11_method_21_code 14 (.iaload) 1 15 := ⟨by decide +kernel, rfl⟩
theorem dMod_codes_15 : uD prog_11_method_21_code 15 (.iadd) 1 16 := ⟨by decide +kernel, rfl⟩
theorem dMod_codes_16 : uD prog_11_method_21_code 16 (.iload_n 2) 1 17 := ⟨by decide +kernel, rfl⟩
theorem dMod_codes_17 : uD prog_11_method_21_code 17 (.iastore) 1 18 := ⟨by decide +kernel, rfl⟩
theorem dMod_codes_18 : uD prog_11_method_21_code 18 (.aload_n 0) 1 19 := ⟨by decide +kernel, rfl⟩
theorem dMod_codes_19 : uD prog_11_method_21_code 19 (.getfield 58) 3 22 := ⟨by decide +kernel, rfl⟩
theorem dMod_codes_22 : uD prog_11_method_21_code 22 (.iload_n 1) 1 23 := ⟨by decide +kernel, rfl⟩
theorem dMod_codes_23 : uD prog_11_method_21_code 23 (.dup2) 1 24 := ⟨by decide +kernel, rfl⟩
theorem dMod_codes_24 : uD prog_11_method_21_code 24 (.iaload) 1 25 := ⟨by decide +kernel, rfl⟩
theorem dMod_codes_25 : uD prog_11_method_21_code 25 (.iconst 1) 1 26 := ⟨by decide +kernel, rfl⟩
theorem dMod_codes_26 : uD prog_11_method_21_code 26 (.iadd) 1 27 := ⟨by decide +kernel, rfl⟩
theorem dMod_codes_27 : uD prog_11_method_21_code 27 (.iastore) 1 28 := ⟨by decide +kernel, rfl⟩
theorem dMod_codes_28 : uD prog_11_method_21_code 28 (.return_) 1 29 := ⟨by decide +kernel, rfl⟩
theorem dMod_codesName_0 : uD prog_11_method_22_code 0 (.aload_n 0) 1 1 := ⟨by decide +kernel, rfl⟩
theorem dMod_codesName_1 : uD prog_11_method_22_code 1 (.iload_n 1) 1 2 := ⟨by decide +kernel, rfl⟩
theorem dMod_codesName_2 : uD prog_11_method_22_code 2 (.iconst 2) 1 3 := ⟨by decide +kernel, rfl⟩
theorem dMod_codesName_3 : uD prog_11_method_22_code 3 (.invokevirtual 97) 3 6 := ⟨by decide +kernel, rfl⟩
theorem dMod_codesName_6 : uB prog_11_method_22_code 6 (.ifCond .ge) 9 14 := ⟨8, by decide +kernel, rfl, by decide⟩
theorem dMod_codesName_9 : uD prog_11_method_22_code 9 (.bipush 6) 2 11 := ⟨by decide +kernel, rfl⟩
theorem dMod_codesName_11 : uB prog_11_method_22_code 11 .goto 14 25 := ⟨14, by decide +kernel, rfl, by decide⟩
theorem dMod_codesName_14 : uD prog_11_method_22_code 14 (.aload_n 0) 1 15 := ⟨by decide +kernel, rfl⟩
theorem dMod_codesName_15 : uD prog_11_method_22_code 15 (.aload_n 0) 1 16 := ⟨by decide +kernel, rfl⟩
theorem dMod_codesName_16 : uD prog_11_method_22_code 16 (.iload_n 1) 1 17 := ⟨by decide +kernel, rfl⟩
theorem dMod_codesName_17 : uD prog_11_method_22_code 17 (.iconst 2) 1 18 := ⟨by decide +kernel, rfl⟩
theorem dMod_codesName_18 : uD prog_11_method_22_code 18 (.invokevirtual 97) 3 21 := ⟨by decide +kernel, rfl⟩
theorem dMod_codesName_21 : uD prog_11_method_22_code 21 (.iconst 0) 1 22 := ⟨by decide +kernel, rfl⟩
theorem dMod_codesName_22 : uD prog_11_method_22_code 22 (.invokevirtual 97) 3 25 := ⟨by decide +kernel, rfl⟩
theorem dMod_codesName_25 : uD prog_11_method_22_code 25 (.istore_n 2) 1 26 := ⟨by decide +kernel, rfl⟩
theorem dMod_codesName_26 : uD prog_11_method_22_code 26 (.aload_n 0) 1 27 := ⟨by decide +kernel, rfl⟩
theorem dMod_codesName_27 : uD prog_11_method_22_code 27 (.iload_n 1) 1 28 := ⟨by decide +kernel, rfl⟩
theorem dMod_codesName_28 : uD prog_11_method_22_code 28 (.iconst 0) 1 29 := ⟨by decide +kernel, rfl⟩
theorem dMod_codesName_29 : uD prog_11_method_22_code 29 (.invokevirtual 97) 3 32 := ⟨by decide +kernel, rfl⟩
theorem dMod_codesName_32 : uD prog_11_method_22_code 32 (.istore_n 3) 1 33 := ⟨by decide +kernel, rfl⟩
theorem dMod_codesName_33 : uD prog_11_method_22_code 33 (.iconst 0) 1 34 := ⟨by decide +kernel, rfl⟩
theorem dMod_codesName_34 : uD prog_11_method_22_code 34 (.istore 4) 2 36 := ⟨by decide +kernel, rfl⟩
theorem dMod_codesName_36 : uD prog_11_method_22_code 36 (.iload 4) 2 38 := ⟨by decide +kernel, rfl⟩
theorem dMod_codesName_38 : uD prog_11_method_22_code 38 (.aload_n 0) 1 39 := ⟨by decide +kernel, rfl⟩
theorem dMod_codesName_39 : uD prog_11_method_22_code 39 (.getfield 43) 3 42 := ⟨by decide +kernel, rfl⟩
theorem dMod_codesName_42 : uD prog_11_method_22_code 42 (.iload_n 2) 1 43 := ⟨by decide +kernel, rfl⟩
theorem dMod_codesName_43 : uD prog_11_method_22_code 43 (.iaload) 1 44 := ⟨by decide +kernel, rfl⟩
theorem dMod_codesName_44 : uB prog_11_method_22_code 44 (.if_icmp .ge) 47 69 := ⟨25, by decide +kernel, rfl, by decide⟩
theorem dMod_codesName_47 : uD prog_11_method_22_code 47 (.aload_n 0) 1 48 := ⟨by decide +kernel, rfl⟩
theorem dMod_codesName_48 : uD prog_11_method_22_code 48 (.getfield 40) 3 51 := ⟨by decide +kernel, rfl⟩
theorem dMod_codesName_51 : uD prog_11_method_22_code 51 (.bipush 6) 2 53 := ⟨by decide +kernel, rfl⟩
theorem dMod_codesName_53 : uD prog_11_method_22_code 53 (.iload_n 2) 1 54 := ⟨by decide +kernel, rfl⟩
theorem dMod_codesName_54 : uD prog_11_method_22_code 54 (.imul) 1 55 := ⟨by decide +kernel, rfl⟩
theorem dMod_codesName_55 : uD prog_11_method_22_code 55 (.iload 4) 2 57 := ⟨by decide +kernel, rfl⟩
theorem dMod_codesName_57 : uD prog_11_method_22_code 57 (.iadd) 1 58 := ⟨by decide +kernel, rfl⟩
theorem dMod_codesName_58 : uD prog_11_method_22_code 58 (.iaload) 1 59 := ⟨by decide +kernel, rfl⟩
theorem dMod_codesName_59 : uD prog_11_method_22_code 59 (.iload_n 3) 1 60 := ⟨by decide +kernel, rfl⟩
theorem dMod_codesName_60 : uB prog_11_method_22_code 60 (.if_icmp .eq) 63 69 := ⟨9, by decide +kernel, rfl, by decide⟩
theorem dMod_codesName_63 : uD prog_11_method_22_code 63 (.iinc 4 1) 3 66 := ⟨by decide +kernel, rfl⟩
theorem dMod_codesName_66 : uB prog_11_method_22_code 66 .goto 69 36 := ⟨-30, by decide +kernel, rfl, by decide⟩
theorem dMod_codesName_69 : uD prog_11_method_22_code 69 (.iload 4) 2 71 := ⟨by decide +kernel, rfl⟩
theorem dMod_codesName_71 : uD prog_11_method_22_code 71 (.aload_n 0) 1 72 := ⟨by decide +kernel, rfl⟩
theorem dMod_codesName_72 : uD prog_11_method_22_code 72 (.getfield 43) 3 75 := ⟨by decide +kernel, rfl⟩
theorem dMod_codesName_75 : uD prog_11_method_22_code 75 (.iload_n 2) 1 76 := ⟨by decide +kernel, rfl⟩
theorem dMod_codesName_76 : uD prog_11_method_22_code 76 (.iaload) 1 77 := ⟨by decide +kernel, rfl⟩
theorem dMod_codesName_77 : uB prog_11_method_22_code 77 (.if_icmp .ne) 80 102 := ⟨25, by decide +kernel, rfl, by decide⟩
theorem dMod_codesName_80 : uD prog_11_method_22_code 80 (.aload_n 0) 1 81 := ⟨by decide +kernel, rfl⟩
theorem dMod_codesName_81 : uD prog_11_method_22_code 81 (.iconst 1) 1 82 := ⟨by decide +kernel, rfl⟩
theorem dMod_codesName_82 : uD prog_11_method_22_code 82 (.iload 4) 2 84 := ⟨by decide +kernel, rfl⟩
theorem dMod_codesName_84 : uD prog_11_method_22_code 84 (.iload_n 3) 1 85 := ⟨by decide +kernel, rfl⟩
theorem dMod_codesName_85 : uD prog_11_method_22_code 85 (.iadd) 1 86 := ⟨by decide +kernel, rfl⟩
theorem dMod_codesName_86 : uD prog_11_method_22_code 86 (.invokevirtual 150) 3 89 := ⟨by decide +kernel, rfl⟩
theorem dMod_codesName_89 : uD prog_11_method_22_code 89 (.aload_n 0) 1 90 := ⟨by decide +kernel, rfl⟩
theorem dMod_codesName_90 : uD prog_11_method_22_code 90 (.getfield 43) 3 93 := ⟨by decide +kernel, rfl⟩
theorem dMod_codesName_93 : uD prog_11_method_22_code 93 (.iload_n 2) 1 94 := ⟨by decide +kernel, rfl⟩
theorem dMod_codesName_94 : uD prog_11_method_22_code 94 (.dup2) 1 95 := ⟨by decide +kernel, rfl⟩
theorem dMod_codesName_95 : uD prog_11_method_22_code 95 (.iaload) 1 96 := ⟨by decide +kernel, rfl⟩
theorem dMod_codesName_96 : uD prog_11_method_22_code 96 (.iconst 1) 1 97 := ⟨by decide +kernel, rfl⟩
theorem dMod_codesName_97 : uD prog_11_method_22_code 97 (.iadd) 1 98 := ⟨by decide +kernel, rfl⟩
theorem dMod_codesName_98 : uD prog_11_method_22_code 98 (.iastore) 1 99 := ⟨by decide +kernel, rfl⟩
theorem dMod_codesName_99 : uB prog_11_method_22_code 99 .goto 102 109 := ⟨10, by decide +kernel, rfl, by decide⟩
theorem dMod_codesName_102 : uD prog_11_method_22_code 102 (.aload_n 0) 1 103 := ⟨by decide +kernel, rfl⟩
theorem dMod_codesName_103 : uD prog_11_method_22_code 103 (.iconst 1) 1 104 := ⟨by decide +kernel, rfl⟩
theorem dMod_codesName_104 : uD prog_11_method_22_code 104 (.iload 4) 2 106 := ⟨by decide +kernel, rfl⟩
theorem dMod_codesName_106 : uD prog_11_method_22_code 106 (.invokevirtual 150) 3 109 := ⟨by decide +kernel, rfl⟩
theorem dMod_codesName_109 : uD prog_11_method_22_code 109 (.iload 4) 2 111 := ⟨by decide +kernel, rfl⟩
theorem dMod_codesName_111 : uD prog_11_method_22_code 111 (.istore 5) 2 113 := ⟨by decide +kernel, rfl⟩
theorem dMod_codesName_113 : uD prog_11_method_22_code 113 (.iload 5) 2 115 := ⟨by decide +kernel, rfl⟩
theorem dMod_codesName_115 : uB prog_11_method_22_code 115 (.ifCond .le) 118 150 := ⟨35, by decide +kernel, rfl, by decide⟩
theorem dMod_codesName_118 : uD prog_11_method_22_code 118 (.aload_n 0) 1 119 := ⟨by decide +kernel, rfl⟩
theorem dMod_codesName_119 : uD prog_11_method_22_code 119 (.getfield 40) 3 122 := ⟨by decide +kernel, rfl⟩
theorem dMod_codesName_122 : uD prog_11_method_22_code 122 (.bipush 6) 2 124 := ⟨by decide +kernel, rfl⟩
theorem dMod_codesName_124 : uD prog_11_method_22_code 124 (.iload_n 2) 1 125 := ⟨by decide +kernel, rfl⟩
theorem dMod_codesName_125 : uD prog_11_method_22_code 125 (.imul) 1 126 := ⟨by decide +kernel, rfl⟩
theorem dMod_codesName_126 : uD prog_11_method_22_code 126 (.iload 5) 2 128 := ⟨by decide +kernel, rfl⟩
theorem dMod_codesName_128 : uD prog_11_method_22_code 128 (.iadd) 1 129 := ⟨by decide +kernel, rfl⟩
theorem dMod_codesName_129 : uD prog_11_method_22_code 129 (.aload_n 0) 1 130 := ⟨by decide +kernel, rfl⟩
theorem dMod_codesName_130 : uD prog_11_method_22_code 130 (.getfield 40) 3 133 := ⟨by decide +kernel, rfl⟩
theorem dMod_codesName_133 : uD prog_11_method_22_code 133 (.bipush 6) 2 135 := ⟨by decide +kernel, rfl⟩
theorem dMod_codesName_135 : uD prog_11_method_22_code 135 (.iload_n 2) 1 136 := ⟨by decide +kernel, rfl⟩
theorem dMod_codesName_136 : uD prog_11_method_22_code 136 (.imul) 1 137 := ⟨by decide +kernel, rfl⟩
theorem dMod_codesName_137 : uD prog_11_method_22_code 137 (.iload 5) 2 139 := ⟨by decide +kernel, rfl⟩
theorem dMod_codesName_139 : uD prog_11_method_22_code 139 (.iadd) 1 140 := ⟨by decide +kernel, rfl⟩
theorem dMod_codesName_140 : uD prog_11_method_22_code 140 (.iconst 1) 1 141 := ⟨by decide +kernel, rfl⟩
theorem dMod_codesName_141 : uD prog_11_method_22_code 141 (.isub) 1 142 := ⟨by decide +kernel, rfl⟩
theorem dMod_codesName_142 : uD prog_11_method_22_code 142 (.iaload) 1 143 := ⟨by decide +kernel, rfl⟩
theorem dMod_codesName_143 : uD prog_11_method_22_code 143 (.iastore) 1 144 := ⟨by decide +kernel, rfl⟩
theorem dMod_codesName_144 : uD prog_11_method_22_code 144 (.iinc 5 (-1)) 3 147 := ⟨by decide +kernel, rfl⟩
theorem dMod_codesName_147 : uB prog_11_method_22_code 147 .goto 150 113 := ⟨-34, by decide +kernel, rfl, by decide⟩
theorem dMod_codesName_150 : uD prog_11_method_22_code 150 (.aload_n 0) 1 151 := ⟨by decide +kernel, rfl⟩
theorem dMod_codesName_151 : uD prog_11_method_22_code 151 (.getfield 40) 3 154 := ⟨by decide +kernel, rfl⟩
theorem dMod_codesName_154 : uD prog_11_method_22_code 154 (.bipush 6) 2 156 := ⟨by decide +kernel, rfl⟩
theorem dMod_codesName_156 : uD prog_11_method_22_code 156 (.iload_n 2) 1 157 := ⟨by decide +kernel, rfl⟩
theorem dMod_codesName_157 : uD prog_11_method_22_code 157 (.imul) 1 158 := ⟨by decide +kernel, rfl⟩
theorem dMod_codesName_158 : uD prog_11_method_22_code 158 (.iload_n 3) 1 159 := ⟨by decide +kernel, rfl⟩
theorem dMod_codesName_159 : uD prog_11_method_22_code 159 (.iastore) 1 160 := ⟨by decide +kernel, rfl⟩
theorem dMod_codesName_160 : uD prog_11_method_22_code 160 (.return_) 1 161 := ⟨by decide +kernel, rfl⟩
theorem dMod_codesNotes_0 : uD prog_11_method_23_code 0 (.aload_n 0) 1 1 := ⟨by decide +kernel, rfl⟩
theorem dMod_codesNotes_1 : uD prog_11_method_23_code 1 (.iload_n 1) 1 2 := ⟨by decide +kernel, rfl⟩
theorem dMod_codesNotes_2 : uD prog_11_method_23_code 2 (.iconst 0) 1 3 := ⟨by decide +kernel, rfl⟩
theorem dMod_codesNotes_3 : uD prog_11_method_23_code 3 (.invokevirtual 97) 3 6 := ⟨by decide +kernel, rfl⟩
theorem dMod_codesNotes_6 : uD prog_11_method_23_code 6 (.istore_n 2) 1 7 := ⟨by decide +kernel, rfl⟩
theorem dMod_codesNotes_7 : uD prog_11_method_23_code 7 (.aload_n 0) 1 8 := ⟨by decide +kernel, rfl⟩
theorem dMod_codesNotes_8 : uD prog_11_method_23_code 8 (.iload_n 1) 1 9 := ⟨by decide +kernel, rfl⟩
theorem dMod_codesNotes_9 : uD prog_11_method_23_code 9 (.iconst 3) 1 10 := ⟨by decide +kernel, rfl⟩
theorem dMod_codesNotes_10 : uD prog_11_method_23_code 10 (.invokevirtual 97) 3 13 := ⟨by decide +kernel, rfl⟩
theorem dMod_codesNotes_13 : uD prog_11_method_23_code 13 (.istore_n 3) 1 14 := ⟨by decide +kernel, rfl⟩
theorem dMod_codesNotes_14 : uD prog_11_method_23_code 14 (.aload_n 0) 1 15 := ⟨by decide +kernel, rfl⟩
theorem dMod_codesNotes_15 : uD prog_11_method_23_code 15 (.iconst 2) 1 16 := ⟨by decide +kernel, rfl⟩
theorem dMod_codesNotes_16 : uD prog_11_method_23_code 16 (.aload_n 0) 1 17 := ⟨by decide +kernel, rfl⟩
theorem dMod_codesNotes_17 : uD prog_11_method_23_code 17 (.getfield 46) 3 20 := ⟨by decide +kernel, rfl⟩
theorem dMod_codesNotes_20 : uD prog_11_method_23_code 20 (.iload_n 2) 1 21 := ⟨by decide +kernel, rfl⟩
theorem dMod_codesNotes_21 : uD prog_11_method_23_code 21 (.iaload) 1 22 := ⟨by decide +kernel, rfl⟩
theorem dMod_codesNotes_22 : uD prog_11_method_23_code 22 (.iload_n 3) 1 23 := ⟨by decide +kernel, rfl⟩
theorem dMod_codesNotes_23 : uB prog_11_method_23_code 23 (.if_icmp .ne) 26 30 := ⟨7, by decide +kernel, rfl, by decide⟩
theorem dMod_codesNotes_26 : uD prog_11_method_23_code 26 (.iconst 0) 1 27 := ⟨by decide +kernel, rfl⟩
theorem dMod_codesNotes_27 : uB prog_11_method_23_code 27 .goto 30 33 := ⟨6, by decide +kernel, rfl, by decide⟩
theorem dMod_codesNotes_30 : uD prog_11_method_23_code 30 (.iload_n 3) 1 31 := ⟨by decide +kernel, rfl⟩
theorem dMod_codesNotes_31 : uD prog_11_method_23_code 31 (.iconst 1) 1 32 := ⟨by decide +kernel, rfl⟩
theorem dMod_codesNotes_32 : uD prog_11_method_23_code 32 (.iadd) 1 33 := ⟨by decide +kernel, rfl⟩
theorem dMod_codesNotes_33 : uD prog_11_method_23_code 33 (.invokevirtual 150) 3 36 := ⟨by decide +kernel, rfl⟩
theorem dMod_codesNotes_36 : uD prog_11_method_23_code 36 (.aload_n 0) 1 37 := ⟨by decide +kernel, rfl⟩
theorem dMod_codesNotes_37 : uD prog_11_method_23_code 37 (.getfield 46) 3 40 := ⟨by decide +kernel, rfl⟩
theorem dMod_codesNotes_40 : uD prog_11_method_23_code 40 (.iload_n 2) 1 41 := ⟨by decide +kernel, rfl⟩
theorem dMod_codesNotes_41 : uD prog_11_method_23_code 41 (.iload_n 3) 1 42 := ⟨by decide +kernel, rfl⟩
theorem dMod_codesNotes_42 : uD prog_11_method_23_code 42 (.iastore) 1 43 := ⟨by decide +kernel, rfl⟩
theorem dMod_codesNotes_43 : uD prog_11_method_23_code 43 (.iconst 0) 1 44 := ⟨by decide +kernel, rfl⟩
theorem dMod_codesNotes_44 : uD prog_11_method_23_code 44 (.istore 4) 2 46 := ⟨by decide +kernel, rfl⟩
theorem dMod_codesNotes_46 : uD prog_11_method_23_code 46 (.iload 4) 2 48 := ⟨by decide +kernel, rfl⟩
theorem dMod_codesNotes_48 : uD prog_11_method_23_code 48 (.iconst 4) 1 49 := ⟨by decide +kernel, rfl⟩
theorem dMod_codesNotes_49 : uB prog_11_method_23_code 49 (.if_icmp .ge) 52 131 := ⟨82, by decide +kernel, rfl, by decide⟩
theorem dMod_codesNotes_52 : uD prog_11_method_23_code 52 (.iload_n 3) 1 53 := ⟨by decide +kernel, rfl⟩
theorem dMod_codesNotes_53 : uD prog_11_method_23_code 53 (.iload 4) 2 55 := ⟨by decide +kernel, rfl⟩
theorem dMod_codesNotes_55 : uD prog_11_method_23_code 55 (.ishr) 1 56 := ⟨by decide +kernel, rfl⟩
theorem dMod_codesNotes_56 : uD prog_11_method_23_code 56 (.iconst 1) 1 57 := ⟨by decide +kernel, rfl⟩
theorem dMod_codesNotes_57 : uD prog_11_method_23_code 57 (.iand) 1 58 := ⟨by decide +kernel, rfl⟩
theorem dMod_codesNotes_58 : uD prog_11_method_23_code 58 (.iconst 1) 1 59 := ⟨by decide +kernel, rfl⟩
theorem dMod_codesNotes_59 : uB prog_11_method_23_code 59 (.if_icmp .ne) 62 125 := ⟨66, by decide +kernel, rfl, by decide⟩
theorem dMod_codesNotes_62 : uD prog_11_method_23_code 62 (.aload_n 0) 1 63 := ⟨by decide +kernel, rfl⟩
theorem dMod_codesNotes_63 : uD prog_11_method_23_code 63 (.iload_n 1) 1 64 := ⟨by decide +kernel, rfl⟩
theorem dMod_codesNotes_64 : uD prog_11_method_23_code 64 (.bipush 9) 2 66 := ⟨by decide +kernel, rfl⟩
theorem dMod_codesNotes_66 : uD prog_11_method_23_code 66 (.iload 4) 2 68 := ⟨by decide +kernel, rfl⟩
theorem dMod_codesNotes_68 : uD prog_11_method_23_code 68 (.iadd) 1 69 := ⟨by decide +kernel, rfl⟩
theorem dMod_codesNotes_69 : uD prog_11_method_23_code 69 (.invokevirtual 97) 3 72 := ⟨by decide +kernel, rfl⟩
theorem dMod_codesNotes_72 : uD prog_11_method_23_code 72 (.istore 5) 2 74 := ⟨by decide +kernel, rfl⟩
theorem dMod_codesNotes_74 : uD prog_11_method_23_code 74 (.aload_n 0) 1 75 := ⟨by decide +kernel, rfl⟩
theorem dMod_codesNotes_75 : uD prog_11_method_23_code 75 (.getfield 49) 3 78 := ⟨by decide +kernel, rfl⟩
theorem dMod_codesNotes_78 : uD prog_11_method_23_code 78 (.iconst 4) 1 79 := ⟨by decide +kernel, rfl⟩
theorem dMod_codesNotes_79 : uD prog_11_method_23_code 79 (.iload_n 2) 1 80 := ⟨by decide +kernel, rfl⟩
theorem dMod_codesNotes_80 : uD prog_11_method_23_code 80 (.imul) 1 81 := ⟨by decide +kernel, rfl⟩
theorem dMod_codesNotes_81 : uD prog_11_method_23_code 81 (.iload 4) 2 83 := ⟨by decide +kernel, rfl⟩
theorem dMod_codesNotes_83 : uD prog_11_method_23_code 83 (.iadd) 1 84 := ⟨by decide +kernel, rfl⟩
theorem dMod_codesNotes_84 : uD prog_11_method_23_code 84 (.iaload) 1 85 := ⟨by decide +kernel, rfl⟩
theorem dMod_codesNotes_85 : uD prog_11_method_23_code 85 (.istore 6) 2 87 := ⟨by decide +kernel, rfl⟩
theorem dMod_codesNotes_87 : uD prog_11_method_23_code 87 (.aload_n 0) 1 88 := ⟨by decide +kernel, rfl⟩
theorem dMod_codesNotes_88 : uD prog_11_method_23_code 88 (.iconst 2) 1 89 := ⟨by decide +kernel, rfl⟩
theorem dMod_codesNotes_89 : uD prog_11_method_23_code 89 (.iload 5) 2 91 := ⟨by decide +kernel, rfl⟩
theorem dMod_codesNotes_91 : uD prog_11_method_23_code 91 (.iload 6) 2 93 := ⟨by decide +kernel, rfl⟩
theorem dMod_codesNotes_93 : uB prog_11_method_23_code 93 (.ifCond .ge) 96 100 := ⟨7, by decide +kernel, rfl, by decide⟩
theorem dMod_codesNotes_96 : uD prog_11_method_23_code 96 (.iconst 0) 1 97 := ⟨by decide +kernel, rfl⟩
theorem dMod_codesNotes_97 : uB prog_11_method_23_code 97 .goto 100 102 := ⟨5, by decide +kernel, rfl, by decide⟩
theorem dMod_codesNotes_100 : uD prog_11_method_23_code 100 (.iload 6) 2 102 := ⟨by decide +kernel, rfl⟩
theorem dMod_codesNotes_102 : uD prog_11_method_23_code 102 (.isub) 1 103 := ⟨by decide +kernel, rfl⟩
theorem dMod_codesNotes_103 : uD prog_11_method_23_code 103 (.bipush 10) 2 105 := ⟨by decide +kernel, rfl⟩
theorem dMod_codesNotes_105 : uD prog_11_method_23_code 105 (.iadd) 1 106 := ⟨by decide +kernel, rfl⟩
theorem dMod_codesNotes_106 : uD prog_11_method_23_code 106 (.bipush 10) 2 108 := ⟨by decide +kernel, rfl⟩
theorem dMod_codesNotes_108 : uD prog_11_method_23_code 108 (.irem) 1 109 := ⟨by decide +kernel, rfl⟩
theorem dMod_codesNotes_109 : uD prog_11_method_23_code 109 (.invokevirtual 150) 3 112 := ⟨by decide +kernel, rfl⟩
theorem dMod_codesNotes_112 : uD prog_11_method_23_code 112 (.aload_n 0) 1 113 := ⟨by decide +kernel, rfl⟩
theorem dMod_codesNotes_113 : uD prog_11_method_23_code 113 (.getfield 49) 3 116 := ⟨by decide +kernel, rfl⟩
theorem dMod_codesNotes_116 : uD prog_11_method_23_code 116 (.iconst 4) 1 117 := ⟨by decide +kernel, rfl⟩
theorem dMod_codesNotes_117 : uD prog_11_method_23_code 117 (.iload_n 2) 1 118 := ⟨by decide +kernel, rfl⟩
theorem dMod_codesNotes_118 : uD prog_11_method_23_code 118 (.imul) 1 119 := ⟨by decide +kernel, rfl⟩
theorem dMod_codesNotes_119 : uD prog_11_method_23_code 119 (.iload 4) 2 121 := ⟨by decide +kernel, rfl⟩
theorem dMod_codesNotes_121 : uD prog_11_method_23_code 121 (.iadd) 1 122 := ⟨by decide +kernel, rfl⟩
theorem dMod_codesNotes_122 : uD prog_11_method_23_code 122 (.iload 5) 2 124 := ⟨by decide +kernel, rfl⟩
theorem dMod_codesNotes_124 : uD prog_11_method_23_code 124 (.iastore) 1 125 := ⟨by decide +kernel, rfl⟩
theorem dMod_codesNotes_125 : uD prog_11_method_23_code 125 (.iinc 4 1) 3 128 := ⟨by decide +kernel, rfl⟩
theorem dMod_codesNotes_128 : uB prog_11_method_23_code 128 .goto 131 46 := ⟨-82, by decide +kernel, rfl, by decide⟩
theorem dMod_codesNotes_131 : uD prog_11_method_23_code 131 (.aload_n 0) 1 132 := ⟨by decide +kernel, rfl⟩
theorem dMod_codesNotes_132 : uD prog_11_method_23_code 132 (.iload_n 1) 1 133 := ⟨by decide +kernel, rfl⟩
theorem dMod_codesNotes_133 : uD prog_11_method_23_code 133 (.iconst 4) 1 134 := ⟨by decide +kernel, rfl⟩
theorem dMod_codesNotes_134 : uD prog_11_method_23_code 134 (.invokevirtual 97) 3 137 := ⟨by decide +kernel, rfl⟩
theorem dMod_codesNotes_137 : uB prog_11_method_23_code 137 (.ifCond .lt) 140 151 := ⟨14, by decide +kernel, rfl, by decide⟩
theorem dMod_codesNotes_140 : uD prog_11_method_23_code 140 (.aload_n 0) 1 141 := ⟨by decide +kernel, rfl⟩
theorem dMod_codesNotes_141 : uD prog_11_method_23_code 141 (.iconst 2) 1 142 := ⟨by decide +kernel, rfl⟩
theorem dMod_codesNotes_142 : uD prog_11_method_23_code 142 (.aload_n 0) 1 143 := ⟨by decide +kernel, rfl⟩
theorem dMod_codesNotes_143 : uD prog_11_method_23_code 143 (.iload_n 1) 1 144 := ⟨by decide +kernel, rfl⟩
theorem dMod_codesNotes_144 : uD prog_11_method_23_code 144 (.iconst 4) 1 145 := ⟨by decide +kernel, rfl⟩
theorem dMod_codesNotes_145 : uD prog_11_method_23_code 145 (.invokevirtual 97) 3 148 := ⟨by decide +kernel, rfl⟩
theorem dMod_codesNotes_148 : uD prog_11_method_23_code 148 (.invokevirtual 150) 3 151 := ⟨by decide +kernel, rfl⟩
theorem dMod_codesNotes_151 : uD prog_11_method_23_code 151 (.return_) 1 152 := ⟨by decide +kernel, rfl⟩
theorem dMod_isWord_0 : uD prog_11_method_24_code 0 (.aload_n 0) 1 1 := ⟨by decide +kernel, rfl⟩
theorem dMod_isWord_1 : uD prog_11_method_24_code 1 (.getfield 52) 3 4 := ⟨by decide +kernel, rfl⟩
theorem dMod_isWord_4 : uD prog_11_method_24_code 4 (.bipush 9) 2 6 := ⟨by decide +kernel, rfl⟩
theorem dMod_isWord_6 : uD prog_11_method_24_code 6 (.iload_n 1) 1 7 := ⟨by decide +kernel, rfl⟩
theorem dMod_isWord_7 : uD prog_11_method_24_code 7 (.imul) 1 8 := ⟨by decide +kernel, rfl⟩
theorem dMod_isWord_8 : uD prog_11_method_24_code 8 (.iaload) 1 9 := ⟨by decide +kernel, rfl⟩
theorem dMod_isWord_9 : uD prog_11_method_24_code 9 (.iload_n 3) 1 10 := ⟨by decide +kernel, rfl⟩
theorem dMod_isWord_10 : uB prog_11_method_24_code 10 (.if_icmp .ne) 13 17 := ⟨7, by decide +kernel, rfl, by decide⟩
theorem dMod_isWord_13 : uD prog_11_method_24_code 13 (.iconst 1) 1 14 := ⟨by decide +kernel, rfl⟩
theorem dMod_isWord_14 : uB prog_11_method_24_code 14 .goto 17 18 := ⟨4, by decide +kernel, rfl, by decide⟩
theorem dMod_isWord_17 : uD prog_11_method_24_code 17 (.iconst 0) 1 18 := ⟨by decide +kernel, rfl⟩
theorem dMod_isWord_18 : uD prog_11_method_24_code 18 (.istore 4) 2 20 := ⟨by decide +kernel, rfl⟩
theorem dMod_isWord_20 : uD prog_11_method_24_code 20 (.iconst 0) 1 21 := ⟨by decide +kernel, rfl⟩
theorem dMod_isWord_21 : uD prog_11_method_24_code 21 (.istore 5) 2 23 := ⟨by decide +kernel, rfl⟩
theorem dMod_isWord_23 : uD prog_11_method_24_code 23 (.iload 5) 2 25 := ⟨by decide +kernel, rfl⟩
theorem dMod_isWord_25 : uD prog_11_method_24_code 25 (.iload_n 3) 1 26 := ⟨by decide +kernel, rfl⟩
theorem dMod_isWord_26 : uB prog_11_method_24_code 26 (.if_icmp .ge) 29 76 := ⟨50, by decide +kernel, rfl, by decide⟩
theorem dMod_isWord_29 : uD prog_11_method_24_code 29 (.iload 4) 2 31 := ⟨by decide +kernel, rfl⟩
theorem dMod_isWord_31 : uB prog_11_method_24_code 31 (.ifCond .eq) 34 76 := ⟨45, by decide +kernel, rfl, by decide⟩
theorem dMod_isWord_34 : uD prog_11_method_24_code 34 (.aload_n 0) 1 35 := ⟨by decide +kernel, rfl⟩
theorem dMod_isWord_35 : uD prog_11_method_24_code 35 (.getfield 52) 3 38 := ⟨by decide +kernel, rfl⟩
theorem dMod_isWord_38 : uD prog_11_method_24_code 38 (.bipush 9) 2 40 := ⟨by decide +kernel, rfl⟩
theorem dMod_isWord_40 : uD prog_11_method_24_code 40 (.iload_n 1) 1 41 := ⟨by decide +kernel, rfl⟩
theorem dMod_isWord_41 : uD prog_11_method_24_code 41 (.imul) 1 42 := ⟨by decide +kernel, rfl⟩
theorem dMod_isWord_42 : uD prog_11_method_24_code 42 (.iconst 1) 1 43 := ⟨by decide +kernel, rfl⟩
theorem dMod_isWord_43 : uD prog_11_method_24_code 43 (.iadd) 1 44 := ⟨by decide +kernel, rfl⟩
theorem dMod_isWord_44 : uD prog_11_method_24_code 44 (.iload 5) 2 46 := ⟨by decide +kernel, rfl⟩
theorem dMod_isWord_46 : uD prog_11_method_24_code 46 (.iadd) 1 47 := ⟨by decide +kernel, rfl⟩
theorem dMod_isWord_47 : uD prog_11_method_24_code 47 (.iaload) 1 48 := ⟨by decide +kernel, rfl⟩
theorem dMod_isWord_48 : uD prog_11_method_24_code 48 (.aload_n 0) 1 49 := ⟨by decide +kernel, rfl⟩
theorem dMod_isWord_49 : uD prog_11_method_24_code 49 (.getfield 19) 3 52 := ⟨by decide +kernel, rfl⟩
theorem dMod_isWord_52 : uD prog_11_method_24_code 52 (.iload_n 2) 1 53 := ⟨by decide +kernel, rfl⟩
theorem dMod_isWord_53 : uD prog_11_method_24_code 53 (.iload 5) 2 55 := ⟨by decide +kernel, rfl⟩
theorem dMod_isWord_55 : uD prog_11_method_24_code 55 (.iadd) 1 56 := ⟨by decide +kernel, rfl⟩
theorem dMod_isWord_56 : uD prog_11_method_24_code 56 (.iaload) 1 57 := ⟨by decide +kernel, rfl⟩
theorem dMod_isWord_57 : uD prog_11_method_24_code 57 (.bipush 103) 2 59 := ⟨by decide +kernel, rfl⟩
theorem dMod_isWord_59 : uD prog_11_method_24_code 59 (.isub) 1 60 := ⟨by decide +kernel, rfl⟩
theorem dMod_isWord_60 : uB prog_11_method_24_code 60 (.if_icmp .ne) 63 67 := ⟨7, by decide +kernel, rfl, by decide⟩
theorem dMod_isWord_63 : uD prog_11_method_24_code 63 (.iconst 1) 1 64 := ⟨by decide +kernel, rfl⟩
theorem dMod_isWord_64 : uB prog_11_method_24_code 64 .goto 67 68 := ⟨4, by decide +kernel, rfl, by decide⟩
theorem dMod_isWord_67 : uD prog_11_method_24_code 67 (.iconst 0) 1 68 := ⟨by decide +kernel, rfl⟩
theorem dMod_isWord_68 : uD prog_11_method_24_code 68 (.istore 4) 2 70 := ⟨by decide +kernel, rfl⟩
theorem dMod_isWord_70 : uD prog_11_method_24_code 70 (.iinc 5 1) 3 73 := ⟨by decide +kernel, rfl⟩
theorem dMod_isWord_73 : uB prog_11_method_24_code 73 .goto 76 23 := ⟨-50, by decide +kernel, rfl, by decide⟩
theorem dMod_isWord_76 : uD prog_11_method_24_code 76 (.iload 4) 2 78 := ⟨by decide +kernel, rfl⟩
theorem dMod_isWord_78 : uD prog_11_method_24_code 78 (.ireturn) 1 79 := ⟨by decide +kernel, rfl⟩
theorem dMod_codesWord_0 : uD prog_11_method_25_code 0 (.iconst 0) 1 1 := ⟨by decide +kernel, rfl⟩
theorem dMod_codesWord_1 : uD prog_11_method_25_code 1 (.istore_n 3) 1 2 := ⟨by decide +kernel, rfl⟩
theorem dMod_codesWord_2 : uD prog_11_method_25_code 2 (.iload_n 3) 1 3 := ⟨by decide +kernel, rfl⟩
theorem dMod_codesWord_3 : uD prog_11_method_25_code 3 (.aload_n 0) 1 4 := ⟨by decide +kernel, rfl⟩
theorem dMod_codesWord_4 : uD prog_11_method_25_code 4 (.getfield 147) 3 7 := ⟨by decide +kernel, rfl⟩
theorem dMod_codesWord_7 : uB prog_11_method_25_code 7 (.if_icmp .ge) 10 26 := ⟨19, by decide +kernel, rfl, by decide⟩
theorem dMod_codesWord_10 : uD prog_11_method_25_code 10 (.aload_n 0) 1 11 := ⟨by decide +kernel, rfl⟩
theorem dMod_codesWord_11 : uD prog_11_method_25_code 11 (.iload_n 3) 1 12 := ⟨by decide +kernel, rfl⟩
theorem dMod_codesWord_12 : uD prog_11_method_25_code 12 (.iload_n 1) 1 13 := ⟨by decide +kernel, rfl⟩
theorem dMod_codesWord_13 : uD prog_11_method_25_code 13 (.iload_n 2) 1 14 := ⟨by decide +kernel, rfl⟩
theorem dMod_codesWord_14 : uD prog_11_method_25_code 14 (.invokevirtual 152) 3 17 := ⟨by decide +kernel, rfl⟩
theorem dMod_codesWord_17 : uB prog_11_method_25_code 17 (.ifCond .ne) 20 26 := ⟨9, by decide +kernel, rfl, by decide⟩
theorem dMod_codesWord_20 : uD prog_11_method_25_code 20 (.iinc 3 1) 3 23 := ⟨by decide +kernel, rfl⟩
theorem dMod_codesWord_23 : uB prog_11_method_25_code 23 .goto 26 2 := ⟨-21, by decide +kernel, rfl, by decide⟩
theorem dMod_codesWord_26 : uD prog_11_method_25_code 26 (.aload_n 0) 1 27 := ⟨by decide +kernel, rfl⟩
theorem dMod_codesWord_27 : uD prog_11_method_25_code 27 (.iconst 3) 1 28 := ⟨by decide +kernel, rfl⟩
theorem dMod_codesWord_28 : uD prog_11_method_25_code 28 (.iload_n 3) 1 29 := ⟨by decide +kernel, rfl⟩
theorem dMod_codesWord_29 : uD prog_11_method_25_code 29 (.invokevirtual 150) 3 32 := ⟨by decide +kernel, rfl⟩
theorem dMod_codesWord_32 : uD prog_11_method_25_code 32 (.iload_n 3) 1 33 := ⟨by decide +kernel, rfl⟩
theorem dMod_codesWord_33 : uD prog_11_method_25_code 33 (.aload_n 0) 1 34 := ⟨by decide +kernel, rfl⟩
theorem dMod_codesWord_34 : uD prog_11_method_25_code 34 (.getfield 147) 3 37 := ⟨by decide +kernel, rfl⟩
theorem dMod_codesWord_37 : uB prog_11_method_25_code 37 (.if_icmp .ne) 40 88 := ⟨51, by decide +kernel, rfl, by decide⟩
theorem dMod_codesWord_40 : uD prog_11_method_25_code 40 (.aload_n 0) 1 41 := ⟨by decide +kernel, rfl⟩
theorem dMod_codesWord_41 : uD prog_11_method_25_code 41 (.iconst 3) 1 42 := ⟨by decide +kernel, rfl⟩
theorem dMod_codesWord_42 : uD prog_11_method_25_code 42 (.iload_n 2) 1 43 := ⟨by decide +kernel, rfl⟩
theorem dMod_codesWord_43 : uD prog_11_method_25_code 43 (.invokevirtual 150) 3 46 := ⟨by decide +kernel, rfl⟩
theorem dMod_codesWord_46 : uD prog_11_method_25_code 46 (.iconst 0) 1 47 := ⟨by decide +kernel, rfl⟩
theorem dMod_codesWord_47 : uD prog_11_method_25_code 47 (.istore 4) 2 49 := ⟨by decide +kernel, rfl⟩
theorem dMod_codesWord_49 : uD prog_11_method_25_code 49 (.iload 4) 2 51 := ⟨by decide +kernel, rfl⟩
theorem dMod_codesWord_51 : uD prog_11_method_25_code 51 (.iload_n 2) 1 52 := ⟨by decide +kernel, rfl⟩
theorem dMod_codesWord_52 : uB prog_11_method_25_code 52 (.if_icmp .ge) 55 78 := ⟨26, by decide +kernel, rfl, by decide⟩
theorem dMod_codesWord_55 : uD prog_11_method_25_code 55 (.aload_n 0) 1 56 := ⟨by decide +kernel, rfl⟩
theorem dMod_codesWord_56 : uD prog_11_method_25_code 56 (.iconst 3) 1 57 := ⟨by decide +kernel, rfl⟩
theorem dMod_codesWord_57 : uD prog_11_method_25_code 57 (.aload_n 0) 1 58 := ⟨by decide +kernel, rfl⟩
theorem dMod_codesWord_58 : uD prog_11_method_25_code 58 (.getfield 19) 3 61 := ⟨by decide +kernel, rfl⟩
theorem dMod_codesWord_61 : uD prog_11_method_25_code 61 (.iload_n 1) 1 62 := ⟨by decide +kernel, rfl⟩
theorem dMod_codesWord_62 : uD prog_11_method_25_code 62 (.iload 4) 2 64 := ⟨by decide +kernel, rfl⟩
theorem dMod_codesWord_64 : uD prog_11_method_25_code 64 (.iadd) 1 65 := ⟨by decide +kernel, rfl⟩
theorem dMod_codesWord_65 : uD prog_11_method_25_code 65 (.iaload) 1 66 := ⟨by decide +kernel, rfl⟩
theorem dMod_codesWord_66 : uD prog_11_method_25_code 66 (.bipush 103) 2 68 := ⟨by decide +kernel, rfl⟩
theorem dMod_codesWord_68 : uD prog_11_method_25_code 68 (.isub) 1 69 := ⟨by decide +kernel, rfl⟩
theorem dMod_codesWord_69 : uD prog_11_method_25_code 69 (.invokevirtual 150) 3 72 := ⟨by decide +kernel, rfl⟩
theorem dMod_codesWord_72 : uD prog_11_method_25_code 72 (.iinc 4 1) 3 75 := ⟨by decide +kernel, rfl⟩
theorem dMod_codesWord_75 : uB prog_11_method_25_code 75 .goto 78 49 := ⟨-26, by decide +kernel, rfl, by decide⟩
theorem dMod_codesWord_78 : uD prog_11_method_25_code 78 (.aload_n 0) 1 79 := ⟨by decide +kernel, rfl⟩
theorem dMod_codesWord_79 : uD prog_11_method_25_code 79 (.dup) 1 80 := ⟨by decide +kernel, rfl⟩
theorem dMod_codesWord_80 : uD prog_11_method_25_code 80 (.getfield 147) 3 83 := ⟨by decide +kernel, rfl⟩
theorem dMod_codesWord_83 : uD prog_11_method_25_code 83 (.iconst 1) 1 84 := ⟨by decide +kernel, rfl⟩
theorem dMod_codesWord_84 : uD prog_11_method_25_code 84 (.iadd) 1 85 := ⟨by decide +kernel, rfl⟩
theorem dMod_codesWord_85 : uD prog_11_method_25_code 85 (.putfield 147) 3 88 := ⟨by decide +kernel, rfl⟩
theorem dMod_codesWord_88 : uD prog_11_method_25_code 88 (.bipush 9) 2 90 := ⟨by decide +kernel, rfl⟩
theorem dMod_codesWord_90 : uD prog_11_method_25_code 90 (.iload_n 3) 1 91 := ⟨by decide +kernel, rfl⟩
theorem dMod_codesWord_91 : uD prog_11_method_25_code 91 (.imul) 1 92 := ⟨by decide +kernel, rfl⟩
theorem dMod_codesWord_92 : uD prog_11_method_25_code 92 (.bipush 8) 2 94 := ⟨by decide +kernel, rfl⟩
theorem dMod_codesWord_94 : uD prog_11_method_25_code 94 (.iadd) 1 95 := ⟨by decide +kernel, rfl⟩
theorem dMod_codesWord_95 : uD prog_11_method_25_code 95 (.istore 4) 2 97 := ⟨by decide +kernel, rfl⟩
theorem dMod_codesWord_97 : uD prog_11_method_25_code 97 (.iload 4) 2 99 := ⟨by decide +kernel, rfl⟩
theorem dMod_codesWord_99 : uD prog_11_method_25_code 99 (.bipush 9) 2 101 := ⟨by decide +kernel, rfl⟩
theorem dMod_codesWord_101 : uB prog_11_method_25_code 101 (.if_icmp .lt) 104 127 := ⟨26, by decide +kernel, rfl, by decide⟩
theorem dMod_codesWord_104 : uD prog_11_method_25_code 104 (.aload_n 0) 1 105 := ⟨by decide +kernel, rfl⟩
theorem dMod_codesWord_105 : uD prog_11_method_25_code 105 (.getfield 52) 3 108 := ⟨by decide +kernel, rfl⟩
theorem dMod_codesWord_108 : uD prog_11_method_25_code 108 (.iload 4) 2 110 := ⟨by decide +kernel, rfl⟩
theorem dMod_codesWord_110 : uD prog_11_method_25_code 110 (.aload_n 0) 1 111 := ⟨by decide +kernel, rfl⟩
theorem dMod_codesWord_111 : uD prog_11_method_25_code 111 (.getfield 52) 3 114 := ⟨by decide +kernel, rfl⟩
theorem dMod_codesWord_114 : uD prog_11_method_25_code 114 (.iload 4) 2 116 := ⟨by decide +kernel, rfl⟩
theorem dMod_codesWord_116 : uD prog_11_method_25_code 116 (.bipush 9) 2 118 := ⟨by decide +kernel, rfl⟩
theorem dMod_codesWord_118 : uD prog_11_method_25_code 118 (.isub) 1 119 := ⟨by decide +kernel, rfl⟩
theorem dMod_codesWord_119 : uD prog_11_method_25_code 119 (.iaload) 1 120 := ⟨by decide +kernel, rfl⟩
theorem dMod_codesWord_120 : uD prog_11_method_25_code 120 (.iastore) 1 121 := ⟨by decide +kernel, rfl⟩
theorem dMod_codesWord_121 : uD prog_11_method_25_code 121 (.iinc 4 (-1)) 3 124 := ⟨by decide +kernel, rfl⟩
theorem dMod_codesWord_124 : uB prog_11_method_25_code 124 .goto 127 97 := ⟨-27, by decide +kernel, rfl, by decide⟩
theorem dMod_codesWord_127 : uD prog_11_method_25_code 127 (.aload_n 0) 1 128 := ⟨by decide +kernel, rfl⟩
theorem dMod_codesWord_128 : uD prog_11_method_25_code 128 (.getfield 52) 3 131 := ⟨by decide +kernel, rfl⟩
theorem dMod_codesWord_131 : uD prog_11_method_25_code 131 (.iconst 0) 1 132 := ⟨by decide +kernel, rfl⟩
theorem dMod_codesWord_132 : uD prog_11_method_25_code 132 (.iload_n 2) 1 133 := ⟨by decide +kernel, rfl⟩
theorem dMod_codesWord_133 : uD prog_11_method_25_code 133 (.iastore) 1 134 := ⟨by decide +kernel, rfl⟩
theorem dMod_codesWord_134 : uD prog_11_method_25_code 134 (.iconst 0) 1 135 := ⟨by decide +kernel, rfl⟩
theorem dMod_codesWord_135 : uD prog_11_method_25_code 135 (.istore 4) 2 137 := ⟨by decide +kernel, rfl⟩
theorem dMod_codesWord_137 : uD prog_11_method_25_code 137 (.iload 4) 2 139 := ⟨by decide +kernel, rfl⟩
theorem dMod_codesWord_139 : uD prog_11_method_25_code 139 (.iload_n 2) 1 140 := ⟨by decide +kernel, rfl⟩
theorem dMod_codesWord_140 : uB prog_11_method_25_code 140 (.if_icmp .ge) 143 170 := ⟨30, by decide +kernel, rfl, by decide⟩
theorem dMod_codesWord_143 : uD prog_11_method_25_code 143 (.aload_n 0) 1 144 := ⟨by decide +kernel, rfl⟩
theorem dMod_codesWord_144 : uD prog_11_method_25_code 144 (.getfield 52) 3 147 := ⟨by decide +kernel, rfl⟩
theorem dMod_codesWord_147 : uD prog_11_method_25_code 147 (.iconst 1) 1 148 := ⟨by decide +kernel, rfl⟩
theorem dMod_codesWord_148 : uD prog_11_method_25_code 148 (.iload 4) 2 150 := ⟨by decide +kernel, rfl⟩
theorem dMod_codesWord_150 : uD prog_11_method_25_code 150 (.iadd) 1 151 := ⟨by decide +kernel, rfl⟩
theorem dMod_codesWord_151 : uD prog_11_method_25_code 151 (.aload_n 0) 1 152 := ⟨by decide +kernel, rfl⟩
theorem dMod_codesWord_152 : uD prog_11_method_25_code 152 (.getfield 19) 3 155 := ⟨by decide +kernel, rfl⟩
theorem dMod_codesWord_155 : uD prog_11_method_25_code 155 (.iload_n 1) 1 156 := ⟨by decide +kernel, rfl⟩
theorem dMod_codesWord_156 : uD prog_11_method_25_code 156 (.iload 4) 2 158 := ⟨by decide +kernel, rfl⟩
theorem dMod_codesWord_158 : uD prog_11_method_25_code 158 (.iadd) 1 159 := ⟨by decide +kernel, rfl⟩
theorem dMod_codesWord_159 : uD prog_11_method_25_code 159 (.iaload) 1 160 := ⟨by decide +kernel, rfl⟩
theorem dMod_codesWord_160 : uD prog_11_method_25_code 160 (.bipush 103) 2 162 := ⟨by decide +kernel, rfl⟩
theorem dMod_codesWord_162 : uD prog_11_method_25_code 162 (.isub) 1 163 := ⟨by decide +kernel, rfl⟩
theorem dMod_codesWord_163 : uD prog_11_method_25_code 163 (.iastore) 1 164 := ⟨by decide +kernel, rfl⟩
theorem dMod_codesWord_164 : uD prog_11_method_25_code 164 (.iinc 4 1) 3 167 := ⟨by decide +kernel, rfl⟩
theorem dMod_codesWord_167 : uB prog_11_method_25_code 167 .goto 170 137 := ⟨-30, by decide +kernel, rfl, by decide⟩
theorem dMod_codesWord_170 : uD prog_11_method_25_code 170 (.return_) 1 171 := ⟨by decide +kernel, rfl⟩
theorem dMod_packs_0 : uD prog_11_method_26_code 0 (.iconst 0) 1 1 := ⟨by decide +kernel, rfl⟩
theorem dMod_packs_1 : uD prog_11_method_26_code 1 (.istore_n 1) 1 2 := ⟨by decide +kernel, rfl⟩
theorem dMod_packs_2 : uD prog_11_method_26_code 2 (.iload_n 1) 1 3 := ⟨by decide +kernel, rfl⟩
theorem dMod_packs_3 : uD prog_11_method_26_code 3 (.iconst 4) 1 4 := ⟨by decide +kernel, rfl⟩
theorem dMod_packs_4 : uB prog_11_method_26_code 4 (.if_icmp .ge) 7 20 := ⟨16, by decide +kernel, rfl, by decide⟩
theorem dMod_packs_7 : uD prog_11_method_26_code 7 (.aload_n 0) 1 8 := ⟨by decide +kernel, rfl⟩
theorem dMod_packs_8 : uD prog_11_method_26_code 8 (.getfield 58) 3 11 := ⟨by decide +kernel, rfl⟩
theorem dMod_packs_11 : uD prog_11_method_26_code 11 (.iload_n 1) 1 12 := ⟨by decide +kernel, rfl⟩
theorem dMod_packs_12 : uD prog_11_method_26_code 12 (.iconst 0) 1 13 := ⟨by decide +kernel, rfl⟩
theorem dMod_packs_13 : uD prog_11_method_26_code 13 (.iastore) 1 14 := ⟨by decide +kernel, rfl⟩
theorem dMod_packs_14 : uD prog_11_method_26_code 14 (.iinc 1 1) 3 17 := ⟨by decide +kernel, rfl⟩
theorem dMod_packs_17 : uB prog_11_method_26_code 17 .goto 20 2 := ⟨-15, by decide +kernel, rfl, by decide⟩
theorem dMod_packs_20 : uD prog_11_method_26_code 20 (.iconst 0) 1 21 := ⟨by decide +kernel, rfl⟩
theorem dMod_packs_21 : uD prog_11_method_26_code 21 (.istore_n 1) 1 22 := ⟨by decide +kernel, rfl⟩
theorem dMod_packs_22 : uD prog_11_method_26_code 22 (.iload_n 1) 1 23 := ⟨by decide +kernel, rfl⟩
theorem dMod_packs_23 : uD prog_11_method_26_code 23 (.aload_n 0) 1 24 := ⟨by decide +kernel, rfl⟩
theorem dMod_packs_24 : uD prog_11_method_26_code 24 (.getfield 91) 3 27 := ⟨by decide +kernel, rfl⟩
theorem dMod_packs_27 : uB prog_11_method_26_code 27 (.if_icmp .ge) 30 111 := ⟨84, by decide +kernel, rfl, by decide⟩
theorem dMod_packs_30 : uD prog_11_method_26_code 30 (.aload_n 0) 1 31 := ⟨by decide +kernel, rfl⟩
theorem dMod_packs_31 : uD prog_11_method_26_code 31 (.iconst 0) 1 32 := ⟨by decide +kernel, rfl⟩
theorem dMod_packs_32 : uD prog_11_method_26_code 32 (.aload_n 0) 1 33 := ⟨by decide +kernel, rfl⟩
theorem dMod_packs_33 : uD prog_11_method_26_code 33 (.getfield 34) 3 36 := ⟨by decide +kernel, rfl⟩
theorem dMod_packs_36 : uD prog_11_method_26_code 36 (.iload_n 1) 1 37 := ⟨by decide +kernel, rfl⟩
theorem dMod_packs_37 : uD prog_11_method_26_code 37 (.iaload) 1 38 := ⟨by decide +kernel, rfl⟩
theorem dMod_packs_38 : uD prog_11_method_26_code 38 (.invokevirtual 150) 3 41 := ⟨by decide +kernel, rfl⟩
theorem dMod_packs_41 : uD prog_11_method_26_code 41 (.aload_n 0) 1 42 := ⟨by decide +kernel, rfl⟩
theorem dMod_packs_42 : uD prog_11_method_26_code 42 (.getfield 34) 3 45 := ⟨by decide +kernel, rfl⟩
theorem dMod_packs_45 : uD prog_11_method_26_code 45 (.iload_n 1) 1 46 := ⟨by decide +kernel, rfl⟩
theorem dMod_packs_46 : uD prog_11_method_26_code 46 (.iaload) 1 47 := ⟨by decide +kernel, rfl⟩
theorem dMod_packs_47 : uB prog_11_method_26_code 47 (.ifCond .ne) 50 73 := ⟨26, by decide +kernel, rfl, by decide⟩
theorem dMod_packs_50 : uD prog_11_method_26_code 50 (.aload_n 0) 1 51 := ⟨by decide +kernel, rfl⟩
theorem dMod_packs_51 : uD prog_11_method_26_code 51 (.aload_n 0) 1 52 := ⟨by decide +kernel, rfl⟩
theorem dMod_packs_52 : uD prog_11_method_26_code 52 (.getfield 37) 3 55 := ⟨by decide +kernel, rfl⟩
theorem dMod_packs_55 : uD prog_11_method_26_code 55 (.iload_n 1) 1 56 := ⟨by decide +kernel, rfl⟩
theorem dMod_packs_56 : uD prog_11_method_26_code 56 (.iaload) 1 57 := ⟨by decide +kernel, rfl⟩
theorem dMod_packs_57 : uD prog_11_method_26_code 57 (.invokevirtual 155) 3 60 := ⟨by decide +kernel, rfl⟩
theorem dMod_packs_60 : uD prog_11_method_26_code 60 (.aload_n 0) 1 61 := ⟨by decide +kernel, rfl⟩
theorem dMod_packs_61 : uD prog_11_method_26_code 61 (.aload_n 0) 1 62 := ⟨by decide +kernel, rfl⟩
theorem dMod_packs_62 : uD prog_11_method_26_code 62 (.getfield 37) 3 65 := ⟨by decide +kernel, rfl⟩
theorem dMod_packs_65 : uD prog_11_method_26_code 65 (.iload_n 1) 1 66 := ⟨by decide +kernel, rfl⟩
theorem dMod_packs_66 : uD prog_11_method_26_code 66 (.iaload) 1 67 := ⟨by decide +kernel, rfl⟩
theorem dMod_packs_67 : uD prog_11_method_26_code 67 (.invokevirtual 159) 3 70 := ⟨by decide +kernel, rfl⟩
theorem dMod_packs_70 : uB prog_11_method_26_code 70 .goto 73 105 := ⟨35, by decide +kernel, rfl, by decide⟩
theorem dMod_packs_73 : uD prog_11_method_26_code 73 (.aload_n 0) 1 74 := ⟨by decide +kernel, rfl⟩
theorem dMod_packs_74 : uD prog_11_method_26_code 74 (.getfield 34) 3 77 := ⟨by decide +kernel, rfl⟩
theorem dMod_packs_77 : uD prog_11_method_26_code 77 (.iload_n 1) 1 78 := ⟨by decide +kernel, rfl⟩
theorem dMod_packs_78 : uD prog_11_method_26_code 78 (.iaload) 1 79 := ⟨by decide +kernel, rfl⟩
theorem dMod_packs_79 : uD prog_11_method_26_code 79 (.iconst 1) 1 80 := ⟨by decide +kernel, rfl⟩
theorem dMod_packs_80 : uB prog_11_method_26_code 80 (.if_icmp .ne) 83 105 := ⟨25, by decide +kernel, rfl, by decide⟩
theorem dMod_packs_83 : uD prog_11_method_26_code 83 (.aload_n 0) 1 84 := ⟨by decide +kernel, rfl⟩
theorem dMod_packs_84 : uD prog_11_method_26_code 84 (.aload_n 0) 1 85 := ⟨by decide +kernel, rfl⟩
theorem dMod_packs_85 : uD prog_11_method_26_code 85 (.getfield 37) 3 88 := ⟨by decide +kernel, rfl⟩
theorem dMod_packs_88 : uD prog_11_method_26_code 88 (.iload_n 1) 1 89 := ⟨by decide +kernel, rfl⟩
theorem dMod_packs_89 : uD prog_11_method_26_code 89 (.iaload) 1 90 := ⟨by decide +kernel, rfl⟩
theorem dMod_packs_90 : uD prog_11_method_26_code 90 (.bipush 10) 2 92 := ⟨by decide +kernel, rfl⟩
theorem dMod_packs_92 : uD prog_11_method_26_code 92 (.idiv) 1 93 := ⟨by decide +kernel, rfl⟩
theorem dMod_packs_93 : uD prog_11_method_26_code 93 (.aload_n 0) 1 94 := ⟨by decide +kernel, rfl⟩
theorem dMod_packs_94 : uD prog_11_method_26_code 94 (.getfield 37) 3 97 := ⟨by decide +kernel, rfl⟩
theorem dMod_packs_97 : uD prog_11_method_26_code 97 (.iload_n 1) 1 98 := ⟨by decide +kernel, rfl⟩
theorem dMod_packs_98 : uD prog_11_method_26_code 98 (.iaload) 1 99 := ⟨by decide +kernel, rfl⟩
theorem dMod_packs_99 : uD prog_11_method_26_code 99 (.bipush 10) 2 101 := ⟨by decide +kernel, rfl⟩
theorem dMod_packs_101 : uD prog_11_method_26_code 101 (.irem) 1 102 := ⟨by decide +kernel, rfl⟩
theorem dMod_packs_102 : uD prog_11_method_26_code 102 (.invokevirtual 162) 3 105 := ⟨by decide +kernel, rfl⟩
theorem dMod_packs_105 : uD prog_11_method_26_code 105 (.iinc 1 1) 3 108 := ⟨by decide +kernel, rfl⟩
theorem dMod_packs_108 : uB prog_11_method_26_code 108 .goto 111 22 := ⟨-86, by decide +kernel, rfl, by decide⟩
theorem dMod_packs_111 : uD prog_11_method_26_code 111 (.return_) 1 112 := ⟨by decide +kernel, rfl⟩
theorem dMod_packsUpTo_0 : uD prog_11_method_27_code 0 (.aload_n 0) 1 1 := ⟨by decide +kernel, rfl⟩
theorem dMod_packsUpTo_1 : uD prog_11_method_27_code 1 (.invokevirtual 165) 3 4 := ⟨by decide +kernel, rfl⟩
theorem dMod_packsUpTo_4 : uD prog_11_method_27_code 4 (.iconst 0) 1 5 := ⟨by decide +kernel, rfl⟩
theorem dMod_packsUpTo_5 : uD prog_11_method_27_code 5 (.istore_n 2) 1 6 := ⟨by decide +kernel, rfl⟩
theorem dMod_packsUpTo_6 : uD prog_11_method_27_code 6 (.iload_n 2) 1 7 := ⟨by decide +kernel, rfl⟩
theorem dMod_packsUpTo_7 : uD prog_11_method_27_code 7 (.iload_n 1) 1 8 := ⟨by decide +kernel, rfl⟩
theorem dMod_packsUpTo_8 : uB prog_11_method_27_code 8 (.if_icmp .ge) 11 26 := ⟨18, by decide +kernel, rfl, by decide⟩
theorem dMod_packsUpTo_11 : uD prog_11_method_27_code 11 (.aload_n 0) 1 12 := ⟨by decide +kernel, rfl⟩
theorem dMod_packsUpTo_12 : uD prog_11_method_27_code 12 (.iload_n 2) 1 13 := ⟨by decide +kernel, rfl⟩
theorem dMod_packsUpTo_13 : uD prog_11_method_27_code 13 (.invokevirtual 168) 3 16 := ⟨by decide +kernel, rfl⟩
theorem dMod_packsUpTo_16 : uD prog_11_method_27_code 16 (.aload_n 0) 1 17 := ⟨by decide +kernel, rfl⟩
theorem dMod_packsUpTo_17 : uD prog_11_method_27_code 17 (.invokevirtual 171) 3 20 := ⟨by decide +kernel, rfl⟩
theorem dMod_packsUpTo_20 : uD prog_11_method_27_code 20 (.iinc 2 1) 3 23 := ⟨by decide +kernel, rfl⟩
theorem dMod_packsUpTo_23 : uB prog_11_method_27_code 23 .goto 26 6 := ⟨-17, by decide +kernel, rfl, by decide⟩
theorem dMod_packsUpTo_26 : uD prog_11_method_27_code 26 (.return_) 1 27 := ⟨by decide +kernel, rfl⟩
theorem dMod_bitsOf_0 : uD prog_11_method_28_code 0 (.iconst 1) 1 1 := ⟨by decide +kernel, rfl⟩
theorem dMod_bitsOf_1 : uD prog_11_method_28_code 1 (.istore_n 1) 1 2 := ⟨by decide +kernel, rfl⟩
theorem dMod_bitsOf_2 : uD prog_11_method_28_code 2 (.iload_n 0) 1 3 := ⟨by decide +kernel, rfl⟩
theorem dMod_bitsOf_3 : uD prog_11_method_28_code 3 (.iconst 1) 1 4 := ⟨by decide +kernel, rfl⟩
theorem dMod_bitsOf_4 : uD prog_11_method_28_code 4 (.iadd) 1 5 := ⟨by decide +kernel, rfl⟩
theorem dMod_bitsOf_5 : uD prog_11_method_28_code 5 (.istore_n 2) 1 6 := ⟨by decide +kernel, rfl⟩
theorem dMod_bitsOf_6 : uD prog_11_method_28_code 6 (.iload_n 2) 1 7 := ⟨by decide +kernel, rfl⟩
theorem dMod_bitsOf_7 : uD prog_11_method_28_code 7 (.iconst 1) 1 8 := ⟨by decide +kernel, rfl⟩
theorem dMod_bitsOf_8 : uB prog_11_method_28_code 8 (.if_icmp .le) 11 21 := ⟨13, by decide +kernel, rfl, by decide⟩
theorem dMod_bitsOf_11 : uD prog_11_method_28_code 11 (.iinc 1 2) 3 14 := ⟨by decide +kernel, rfl⟩
theorem dMod_bitsOf_14 : uD prog_11_method_28_code 14 (.iload_n 2) 1 15 := ⟨by decide +kernel, rfl⟩
theorem dMod_bitsOf_15 : uD prog_11_method_28_code 15 (.iconst 2) 1 16 := ⟨by decide +kernel, rfl⟩
theorem dMod_bitsOf_16 : uD prog_11_method_28_code 16 (.idiv) 1 17 := ⟨by decide +kernel, rfl⟩
theorem dMod_bitsOf_17 : uD prog_11_method_28_code 17 (.istore_n 2) 1 18 := ⟨by decide +kernel, rfl⟩
theorem dMod_bitsOf_18 : uB prog_11_method_28_code 18 .goto 21 6 := ⟨-12, by decide +kernel, rfl, by decide⟩
theorem dMod_bitsOf_21 : uD prog_11_method_28_code 21 (.iload_n 1) 1 22 := ⟨by decide +kernel, rfl⟩
theorem dMod_bitsOf_22 : uD prog_11_method_28_code 22 (.ireturn) 1 23 := ⟨by decide +kernel, rfl⟩
theorem dMod_rowBits_0 : uD prog_11_method_29_code 0 (.iconst 0) 1 1 := ⟨by decide +kernel, rfl⟩
theorem dMod_rowBits_1 : uD prog_11_method_29_code 1 (.istore_n 2) 1 2 := ⟨by decide +kernel, rfl⟩
theorem dMod_rowBits_2 : uD prog_11_method_29_code 2 (.iconst 0) 1 3 := ⟨by decide +kernel, rfl⟩
theorem dMod_rowBits_3 : uD prog_11_method_29_code 3 (.istore_n 3) 1 4 := ⟨by decide +kernel, rfl⟩
theorem dMod_rowBits_4 : uD prog_11_method_29_code 4 (.iload_n 3) 1 5 := ⟨by decide +kernel, rfl⟩
theorem dMod_rowBits_5 : uD prog_11_method_29_code 5 (.aload_n 0) 1 6 := ⟨by decide +kernel, rfl⟩
theorem dMod_rowBits_6 : uD prog_11_method_29_code 6 (.getfield 58) 3 9 := ⟨by decide +kernel, rfl⟩
theorem dMod_rowBits_9 : uD prog_11_method_29_code 9 (.iload_n 1) 1 10 := ⟨by decide +kernel, rfl⟩
theorem dMod_rowBits_10 : uD prog_11_method_29_code 10 (.iaload) 1 11 := ⟨by decide +kernel, rfl⟩
theorem dMod_rowBits_11 : uB prog_11_method_29_code 11 (.if_icmp .ge) 14 46 := ⟨35, by decide +kernel, rfl, by decide⟩
theorem dMod_rowBits_14 : uD prog_11_method_29_code 14 (.iload_n 2) 1 15 := ⟨by decide +kernel, rfl⟩
theorem dMod_rowBits_15 : uD prog_11_method_29_code 15 (.iload_n 1) 1 16 := ⟨by decide +kernel, rfl⟩
theorem dMod_rowBits_16 : uB prog_11_method_29_code 16 (.ifCond .ne) 19 23 := ⟨7, by decide +kernel, rfl, by decide⟩
theorem dMod_rowBits_19 : uD prog_11_method_29_code 19 (.iconst 2) 1 20 := ⟨by decide +kernel, rfl⟩
theorem dMod_rowBits_20 : uB prog_11_method_29_code 20 .goto 23 38 := ⟨18, by decide +kernel, rfl, by decide⟩
theorem dMod_rowBits_23 : uD prog_11_method_29_code 23 (.aload_n 0) 1 24 := ⟨by decide +kernel, rfl⟩
theorem dMod_rowBits_24 : uD prog_11_method_29_code 24 (.getfield 55) 3 27 := ⟨by decide +kernel, rfl⟩
theorem dMod_rowBits_27 : uD prog_11_method_29_code 27 (.sipush 400) 3 30 := ⟨by decide +kernel, rfl⟩
theorem dMod_rowBits_30 : uD prog_11_method_29_code 30 (.iload_n 1) 1 31 := ⟨by decide +kernel, rfl⟩
theorem dMod_rowBits_31 : uD prog_11_method_29_code 31 (.imul) 1 32 := ⟨by decide +kernel, rfl⟩
theorem dMod_rowBits_32 : uD prog_11_method_29_code 32 (.iload_n 3) 1 33 := ⟨by decide +kernel, rfl⟩
theorem dMod_rowBits_33 : uD prog_11_method_29_code 33 (.iadd) 1 34 := ⟨by decide +kernel, rfl⟩
theorem dMod_rowBits_34 : uD prog_11_method_29_code 34 (.iaload) 1 35 := ⟨by decide +kernel, rfl⟩
theorem dMod_rowBits_35 : uD prog_11_method_29_code 35 (.invokestatic 174) 3 38 := ⟨by decide +kernel, rfl⟩
theorem dMod_rowBits_38 : uD prog_11_method_29_code 38 (.iadd) 1 39 := ⟨by decide +kernel, rfl⟩
theorem dMod_rowBits_39 : uD prog_11_method_29_code 39 (.istore_n 2) 1 40 := ⟨by decide +kernel, rfl⟩
theorem dMod_rowBits_40 : uD prog_11_method_29_code 40 (.iinc 3 1) 3 43 := ⟨by decide +kernel, rfl⟩
theorem dMod_rowBits_43 : uB prog_11_method_29_code 43 .goto 46 4 := ⟨-39, by decide +kernel, rfl, by decide⟩
theorem dMod_rowBits_46 : uD prog_11_method_29_code 46 (.iload_n 2) 1 47 := ⟨by decide +kernel, rfl⟩
theorem dMod_rowBits_47 : uD prog_11_method_29_code 47 (.ireturn) 1 48 := ⟨by decide +kernel, rfl⟩
theorem dMod_pageBits_0 : uD prog_11_method_30_code 0 (.aload_n 0) 1 1 := ⟨by decide +kernel, rfl⟩
theorem dMod_pageBits_1 : uD prog_11_method_30_code 1 (.iconst 0) 1 2 := ⟨by decide +kernel, rfl⟩
theorem dMod_pageBits_2 : uD prog_11_method_30_code 2 (.invokevirtual 177) 3 5 := ⟨by decide +kernel, rfl⟩
theorem dMod_pageBits_5 : uD prog_11_method_30_code 5 (.aload_n 0) 1 6 := ⟨by decide +kernel, rfl⟩
theorem dMod_pageBits_6 : uD prog_11_method_30_code 6 (.iconst 1) 1 7 := ⟨by decide +kernel, rfl⟩
theorem dMod_pageBits_7 : uD prog_11_method_30_code 7 (.invokevirtual 177) 3 10 := ⟨by decide +kernel, rfl⟩
theorem dMod_pageBits_10 : uD prog_11_method_30_code 10 (.iadd) 1 11 := ⟨by decide +kernel, rfl⟩
theorem dMod_pageBits_11 : uD prog_11_method_30_code 11 (.aload_n 0) 1 12 := ⟨by decide +kernel, rfl⟩
theorem dMod_pageBits_12 : uD prog_11_method_30_code 12 (.iconst 2) 1 13 := ⟨by decide +kernel, rfl⟩
theorem dMod_pageBits_13 : uD prog_11_method_30_code 13 (.invokevirtual 177) 3 16 := ⟨by decide +kernel, rfl⟩
theorem dMod_pageBits_16 : uD prog_11_method_30_code 16 (.iadd) 1 17 := ⟨by decide +kernel, rfl⟩
theorem dMod_pageBits_17 : uD prog_11_method_30_code 17 (.aload_n 0) 1 18 := ⟨by decide +kernel, rfl⟩
theorem dMod_pageBits_18 : uD prog_11_method_30_code 18 (.iconst 3) 1 19 := ⟨by decide +kernel, rfl⟩
theorem dMod_pageBits_19 : uD prog_11_method_30_code 19 (.invokevirtual 177) 3 22 := ⟨by decide +kernel, rfl⟩
theorem dMod_pageBits_22 : uD prog_11_method_30_code 22 (.iadd) 1 23 := ⟨by decide +kernel, rfl⟩
theorem dMod_pageBits_23 : uD prog_11_method_30_code 23 (.ireturn) 1 24 := ⟨by decide +kernel, rfl⟩
theorem dMod_allBits_0 : uD prog_11_method_31_code 0 (.aload_n 0) 1 1 := ⟨by decide +kernel, rfl⟩
theorem dMod_allBits_1 : uD prog_11_method_31_code 1 (.invokevirtual 165) 3 4 := ⟨by decide +kernel, rfl⟩
theorem dMod_allBits_4 : uD prog_11_method_31_code 4 (.iconst 0) 1 5 := ⟨by decide +kernel, rfl⟩
theorem dMod_allBits_5 : uD prog_11_method_31_code 5 (.istore_n 1) 1 6 := ⟨by decide +kernel, rfl⟩
theorem dMod_allBits_6 : uD prog_11_method_31_code 6 (.iconst 0) 1 7 := ⟨by decide +kernel, rfl⟩
theorem dMod_allBits_7 : uD prog_11_method_31_code 7 (.istore_n 2) 1 8 := ⟨by decide +kernel, rfl⟩
theorem dMod_allBits_8 : uD prog_11_method_31_code 8 (.iload_n 2) 1 9 := ⟨by decide +kernel, rfl⟩
theorem dMod_allBits_9 : uD prog_11_method_31_code 9 (.aload_n 0) 1 10 := ⟨by decide +kernel, rfl⟩
theorem dMod_allBits_10 : uD prog_11_method_31_code 10 (.getfield 7) 3 13 := ⟨by decide +kernel, rfl⟩
theorem dMod_allBits_13 : uD prog_11_method_31_code 13 (.bipush 6) 2 15 := ⟨by decide +kernel, rfl⟩
theorem dMod_allBits_15 : uD prog_11_method_31_code 15 (.iaload) 1 16 := ⟨by decide +kernel, rfl⟩
theorem dMod_allBits_16 : uB prog_11_method_31_code 16 (.if_icmp .ge) 19 41 := ⟨25, by decide +kernel, rfl, by decide⟩
theorem dMod_allBits_19 : uD prog_11_method_31_code 19 (.aload_n 0) 1 20 := ⟨by decide +kernel, rfl⟩
theorem dMod_allBits_20 : uD prog_11_method_31_code 20 (.iload_n 2) 1 21 := ⟨by decide +kernel, rfl⟩
theorem dMod_allBits_21 : uD prog_11_method_31_code 21 (.invokevirtual 168) 3 24 := ⟨by decide +kernel, rfl⟩
theorem dMod_allBits_24 : uD prog_11_method_31_code 24 (.aload_n 0) 1 25 := ⟨by decide +kernel, rfl⟩
theorem dMod_allBits_25 : uD prog_11_method_31_code 25 (.invokevirtual 171) 3 28 := ⟨by decide +kernel, rfl⟩
theorem dMod_allBits_28 : uD prog_11_method_31_code 28 (.iload_n 1) 1 29 := ⟨by decide +kernel, rfl⟩
theorem dMod_allBits_29 : uD prog_11_method_31_code 29 (.aload_n 0) 1 30 := ⟨by decide +kernel, rfl⟩
theorem dMod_allBits_30 : uD prog_11_method_31_code 30 (.invokevirtual 180) 3 33 := ⟨by decide +kernel, rfl⟩
theorem dMod_allBits_33 : uD prog_11_method_31_code 33 (.iadd) 1 34 := ⟨by decide +kernel, rfl⟩
theorem dMod_allBits_34 : uD prog_11_method_31_code 34 (.istore_n 1) 1 35 := ⟨by decide +kernel, rfl⟩
theorem dMod_allBits_35 : uD prog_11_method_31_code 35 (.iinc 2 1) 3 38 := ⟨by decide +kernel, rfl⟩
theorem dMod_allBits_38 : uB prog_11_method_31_code 38 .goto 41 8 := ⟨-30, by decide +kernel, rfl, by decide⟩
theorem dMod_allBits_41 : uD prog_11_method_31_code 41 (.iload_n 1) 1 42 := ⟨by decide +kernel, rfl⟩
theorem dMod_allBits_42 : uD prog_11_method_31_code 42 (.ireturn) 1 43 := ⟨by decide +kernel, rfl⟩
theorem dMod_rules_0 : uD prog_11_method_32_code 0 (.iconst 0) 1 1 := ⟨by decide +kernel, rfl⟩
theorem dMod_rules_1 : uD prog_11_method_32_code 1 (.istore_n 1) 1 2 := ⟨by decide +kernel, rfl⟩
theorem dMod_rules_2 : uD prog_11_method_32_code 2 (.iconst 0) 1 3 := ⟨by decide +kernel, rfl⟩
theorem dMod_rules_3 : uD prog_11_method_32_code 3 (.istore_n 2) 1 4 := ⟨by decide +kernel, rfl⟩
theorem dMod_rules_4 : uD prog_11_method_32_code 4 (.iload_n 2) 1 5 := ⟨by decide +kernel, rfl⟩
theorem dMod_rules_5 : uD prog_11_method_32_code 5 (.bipush 36) 2 7 := ⟨by decide +kernel, rfl⟩
theorem dMod_rules_7 : uB prog_11_method_32_code 7 (.if_icmp .ge) 10 35 := ⟨28, by decide +kernel, rfl, by decide⟩
theorem dMod_rules_10 : uD prog_11_method_32_code 10 (.iload_n 1) 1 11 := ⟨by decide +kernel, rfl⟩
theorem dMod_rules_11 : uD prog_11_method_32_code 11 (.aload_n 0) 1 12 := ⟨by decide +kernel, rfl⟩
theorem dMod_rules_12 : uD prog_11_method_32_code 12 (.getfield 7) 3 15 := ⟨by decide +kernel, rfl⟩
theorem dMod_rules_15 : uD prog_11_method_32_code 15 (.iload_n 2) 1 16 := ⟨by decide +kernel, rfl⟩
theorem dMod_rules_16 : uD prog_11_method_32_code 16 (.bipush 6) 2 18 := ⟨by decide +kernel, rfl⟩
theorem dMod_rules_18 : uD prog_11_method_32_code 18 (.idiv) 1 19 := ⟨by decide +kernel, rfl⟩
theorem dMod_rules_19 : uD prog_11_method_32_code 19 (.iaload) 1 20 := ⟨by decide +kernel, rfl⟩
theorem dMod_rules_20 : uD prog_11_method_32_code 20 (.iload_n 2) 1 21 := ⟨by decide +kernel, rfl⟩
theorem dMod_rules_21 : uD prog_11_method_32_code 21 (.bipush 6) 2 23 := ⟨by decide +kernel, rfl⟩
theorem dMod_rules_23 : uD prog_11_method_32_code 23 (.irem) 1 24 := ⟨by decide +kernel, rfl⟩
theorem dMod_rules_24 : uD prog_11_method_32_code 24 (.ishr) 1 25 := ⟨by decide +kernel, rfl⟩
theorem dMod_rules_25 : uD prog_11_method_32_code 25 (.iconst 1) 1 26 := ⟨by decide +kernel, rfl⟩
theorem dMod_rules_26 : uD prog_11_method_32_code 26 (.iand) 1 27 := ⟨by decide +kernel, rfl⟩
theorem dMod_rules_27 : uD prog_11_method_32_code 27 (.iadd) 1 28 := ⟨by decide +kernel, rfl⟩
theorem dMod_rules_28 : uD prog_11_method_32_code 28 (.istore_n 1) 1 29 := ⟨by decide +kernel, rfl⟩
theorem dMod_rules_29 : uD prog_11_method_32_code 29 (.iinc 2 1) 3 32 := ⟨by decide +kernel, rfl⟩
theorem dMod_rules_32 : uB prog_11_method_32_code 32 .goto 35 4 := ⟨-28, by decide +kernel, rfl, by decide⟩
theorem dMod_rules_35 : uD prog_11_method_32_code 35 (.iload_n 1) 1 36 := ⟨by decide +kernel, rfl⟩
theorem dMod_rules_36 : uD prog_11_method_32_code 36 (.ireturn) 1 37 := ⟨by decide +kernel, rfl⟩
theorem dMod_rule_0 : uD prog_11_method_33_code 0 (.iload_n 1) 1 1 := ⟨by decide +kernel, rfl⟩
theorem dMod_rule_1 : uD prog_11_method_33_code 1 (.invokestatic 184) 3 4 := ⟨by decide +kernel, rfl⟩
theorem dMod_rule_4 : uB prog_11_method_33_code 4 (.ifCond .ne) 7 14 := ⟨10, by decide +kernel, rfl, by decide⟩
theorem dMod_rule_7 : uD prog_11_method_33_code 7 (.iload_n 2) 1 8 := ⟨by decide +kernel, rfl⟩
theorem dMod_rule_8 : uD prog_11_method_33_code 8 (.invokestatic 184) 3 11 := ⟨by decide +kernel, rfl⟩
theorem dMod_rule_11 : uB prog_11_method_33_code 11 (.ifCond .eq) 14 16 := ⟨5, by decide +kernel, rfl, by decide⟩
theorem dMod_rule_14 : uD prog_11_method_33_code 14 (.iconst (-1)) 1 15 := ⟨by decide +kernel, rfl⟩
theorem dMod_rule_15 : uD prog_11_method_33_code 15 (.ireturn) 1 16 := ⟨by decide +kernel, rfl⟩
theorem dMod_rule_16 : uD prog_11_method_33_code 16 (.aload_n 0) 1 17 := ⟨by decide +kernel, rfl⟩
theorem dMod_rule_17 : uD prog_11_method_33_code 17 (.getfield 7) 3 20 := ⟨by decide +kernel, rfl⟩
theorem dMod_rule_20 : uD prog_11_method_33_code 20 (.iload_n 1) 1 21 := ⟨by decide +kernel, rfl⟩
theorem dMod_rule_21 : uD prog_11_method_33_code 21 (.iaload) 1 22 := ⟨by decide +kernel, rfl⟩
theorem dMod_rule_22 : uD prog_11_method_33_code 22 (.iload_n 2) 1 23 := ⟨by decide +kernel, rfl⟩
theorem dMod_rule_23 : uD prog_11_method_33_code 23 (.ishr) 1 24 := ⟨by decide +kernel, rfl⟩
theorem dMod_rule_24 : uD prog_11_method_33_code 24 (.iconst 1) 1 25 := ⟨by decide +kernel, rfl⟩
theorem dMod_rule_25 : uD prog_11_method_33_code 25 (.iand) 1 26 := ⟨by decide +kernel, rfl⟩
theorem dMod_rule_26 : uD prog_11_method_33_code 26 (.iload_n 3) 1 27 := ⟨by decide +kernel, rfl⟩
theorem dMod_rule_27 : uB prog_11_method_33_code 27 (.ifCond .eq) 30 34 := ⟨7, by decide +kernel, rfl, by decide⟩
theorem dMod_rule_30 : uD prog_11_method_33_code 30 (.iconst 1) 1 31 := ⟨by decide +kernel, rfl⟩
theorem dMod_rule_31 : uB prog_11_method_33_code 31 .goto 34 35 := ⟨4, by decide +kernel, rfl, by decide⟩
theorem dMod_rule_34 : uD prog_11_method_33_code 34 (.iconst 0) 1 35 := ⟨by decide +kernel, rfl⟩
theorem dMod_rule_35 : uB prog_11_method_33_code 35 (.if_icmp .ne) 38 41 := ⟨6, by decide +kernel, rfl, by decide⟩
theorem dMod_rule_38 : uD prog_11_method_33_code 38 (.bipush (-5)) 2 40 := ⟨by decide +kernel, rfl⟩
theorem dMod_rule_40 : uD prog_11_method_33_code 40 (.ireturn) 1 41 := ⟨by decide +kernel, rfl⟩
theorem dMod_rule_41 : uD prog_11_method_33_code 41 (.aload_n 0) 1 42 := ⟨by decide +kernel, rfl⟩
theorem dMod_rule_42 : uD prog_11_method_33_code 42 (.invokevirtual 188) 3 45 := ⟨by decide +kernel, rfl⟩
theorem dMod_rule_45 : uD prog_11_method_33_code 45 (.aload_n 0) 1 46 := ⟨by decide +kernel, rfl⟩
theorem dMod_rule_46 : uD prog_11_method_33_code 46 (.getfield 7) 3 49 := ⟨by decide +kernel, rfl⟩
theorem dMod_rule_49 : uD prog_11_method_33_code 49 (.iload_n 1) 1 50 := ⟨by decide +kernel, rfl⟩
theorem dMod_rule_50 : uD prog_11_method_33_code 50 (.dup2) 1 51 := ⟨by decide +kernel, rfl⟩
theorem dMod_rule_51 : uD prog_11_method_33_code 51 (.iaload) 1 52 := ⟨by decide +kernel, rfl⟩
theorem dMod_rule_52 : uD prog_11_method_33_code 52 (.iconst 1) 1 53 := ⟨by decide +kernel, rfl⟩
theorem dMod_rule_53 : uD prog_11_method_33_code 53 (.iload_n 2) 1 54 := ⟨by decide +kernel, rfl⟩
theorem dMod_rule_54 : uD prog_11_method_33_code 54 (.ishl) 1 55 := ⟨by decide +kernel, rfl⟩
theorem dMod_rule_55 : uD prog_11_method_33_code 55 (.ixor) 1 56 := ⟨by decide +kernel, rfl⟩
theorem dMod_rule_56 : uD prog_11_method_33_code 56 (.iastore) 1 57 := ⟨by decide +kernel, rfl⟩
theorem dMod_rule_57 : uD prog_11_method_33_code 57 (.aload_n 0) 1 58 := ⟨by decide +kernel, rfl⟩
theorem dMod_rule_58 : uD prog_11_method_33_code 58 (.invokevirtual 191) 3 61 := ⟨by decide +kernel, rfl⟩
theorem dMod_rule_61 : uD prog_11_method_33_code 61 (.ireturn) 1 62 := ⟨by decide +kernel, rfl⟩
theorem dMod_pack_0 : uD prog_11_method_34_code 0 (.aload_n 0) 1 1 := ⟨by decide +kernel, rfl⟩
theorem dMod_pack_1 : uD prog_11_method_34_code 1 (.invokevirtual 194) 3 4 := ⟨by decide +kernel, rfl⟩
theorem dMod_pack_4 : uD prog_11_method_34_code 4 (.aload_n 0) 1 5 := ⟨by decide +kernel, rfl⟩
theorem dMod_pack_5 : uD prog_11_method_34_code 5 (.invokevirtual 143) 3 8 := ⟨by decide +kernel, rfl⟩
theorem dMod_pack_8 : uB prog_11_method_34_code 8 (.ifCond .ne) 11 19 := ⟨11, by decide +kernel, rfl, by decide⟩
theorem dMod_pack_11 : uD prog_11_method_34_code 11 (.bipush (-100)) 2 13 := ⟨by decide +kernel, rfl⟩
theorem dMod_pack_13 : uD prog_11_method_34_code 13 (.aload_n 0) 1 14 := ⟨by decide +kernel, rfl⟩
theorem dMod_pack_14 : uD prog_11_method_34_code 14 (.getfield 79) 3 17 := ⟨by decide +kernel, rfl⟩
theorem dMod_pack_17 : uD prog_11_method_34_code 17 (.isub) 1 18 := ⟨by decide +kernel, rfl⟩
theorem dMod_pack_18 : uD prog_11_method_34_code 18 (.ireturn) 1 19 := ⟨by decide +kernel, rfl⟩
theorem dMod_pack_19 : uD prog_11_method_34_code 19 (.aload_n 0) 1 20 := ⟨by decide +kernel, rfl⟩
theorem dMod_pack_20 : uD prog_11_method_34_code 20 (.getfield 7) 3 23 := ⟨by decide +kernel, rfl⟩
theorem dMod_pack_23 : uD prog_11_method_34_code 23 (.bipush 6) 2 25 := ⟨by decide +kernel, rfl⟩
theorem dMod_pack_25 : uD prog_11_method_34_code 25 (.iaload) 1 26 := ⟨by decide +kernel, rfl⟩
theorem dMod_pack_26 : uD prog_11_method_34_code 26 (.bipush 6) 2 28 := ⟨by decide +kernel, rfl⟩
theorem dMod_pack_28 : uB prog_11_method_34_code 28 (.if_icmp .ne) 31 34 := ⟨6, by decide +kernel, rfl, by decide⟩
theorem dMod_pack_31 : uD prog_11_method_34_code 31 (.bipush (-3)) 2 33 := ⟨by decide +kernel, rfl⟩
theorem dMod_pack_33 : uD prog_11_method_34_code 33 (.ireturn) 1 34 := ⟨by decide +kernel, rfl⟩
theorem dMod_pack_34 : uD prog_11_method_34_code 34 (.aload_n 0) 1 35 := ⟨by decide +kernel, rfl⟩
theorem dMod_pack_35 : uD prog_11_method_34_code 35 (.invokevirtual 188) 3 38 := ⟨by decide +kernel, rfl⟩
theorem dMod_pack_38 : uD prog_11_method_34_code 38 (.bipush 7) 2 40 := ⟨by decide +kernel, rfl⟩
theorem dMod_pack_40 : uD prog_11_method_34_code 40 (.bipush 107) 2 42 := ⟨by decide +kernel, rfl⟩
theorem dMod_pack_42 : uD prog_11_method_34_code 42 (.aload_n 0) 1 43 := ⟨by decide +kernel, rfl⟩
theorem dMod_pack_43 : uD prog_11_method_34_code 43 (.getfield 7) 3 46 := ⟨by decide +kernel, rfl⟩
theorem dMod_pack_46 : uD prog_11_method_34_code 46 (.bipush 6) 2 48 := ⟨by decide +kernel, rfl⟩
theorem dMod_pack_48 : uD prog_11_method_34_code 48 (.iaload) 1 49 := ⟨by decide +kernel, rfl⟩
theorem dMod_pack_49 : uD prog_11_method_34_code 49 (.imul) 1 50 := ⟨by decide +kernel, rfl⟩
theorem dMod_pack_50 : uD prog_11_method_34_code 50 (.iadd) 1 51 := ⟨by decide +kernel, rfl⟩
theorem dMod_pack_51 : uD prog_11_method_34_code 51 (.istore_n 1) 1 52 := ⟨by decide +kernel, rfl⟩
theorem dMod_pack_52 : uD prog_11_method_34_code 52 (.aload_n 0) 1 53 := ⟨by decide +kernel, rfl⟩
theorem dMod_pack_53 : uD prog_11_method_34_code 53 (.getfield 7) 3 56 := ⟨by decide +kernel, rfl⟩
theorem dMod_pack_56 : uD prog_11_method_34_code 56 (.iload_n 1) 1 57 := ⟨by decide +kernel, rfl⟩
theorem dMod_pack_57 : uD prog_11_method_34_code 57 (.aload_n 0) 1 58 := ⟨by decide +kernel, rfl⟩
theorem dMod_pack_58 : uD prog_11_method_34_code 58 (.getfield 140) 3 61 := ⟨by decide +kernel, rfl⟩
theorem dMod_pack_61 : uD prog_11_method_34_code 61 (.iastore) 1 62 := ⟨by decide +kernel, rfl⟩
theorem dMod_pack_62 : uD prog_11_method_34_code 62 (.iconst 0) 1 63 := ⟨by decide +kernel, rfl⟩
theorem dMod_pack_63 : uD prog_11_method_34_code 63 (.istore_n 2) 1 64 := ⟨by decide +kernel, rfl⟩
theorem dMod_pack_64 : uD prog_11_method_34_code 64 (.iload_n 2) 1 65 := ⟨by decide +kernel, rfl⟩
theorem dMod_pack_65 : uD prog_11_method_34_code 65 (.aload_n 0) 1 66 := ⟨by decide +kernel, rfl⟩
theorem dMod_pack_66 : uD prog_11_method_34_code 66 (.getfield 140) 3 69 := ⟨by decide +kernel, rfl⟩
theorem dMod_pack_69 : uB prog_11_method_34_code 69 (.if_icmp .ge) 72 94 := ⟨25, by decide +kernel, rfl, by decide⟩
theorem dMod_pack_72 : uD prog_11_method_34_code 72 (.aload_n 0) 1 73 := ⟨by decide +kernel, rfl⟩
theorem dMod_pack_73 : uD prog_11_method_34_code 73 (.getfield 7) 3 76 := ⟨by decide +kernel, rfl⟩
theorem dMod_pack_76 : uD prog_11_method_34_code 76 (.iload_n 1) 1 77 := ⟨by decide +kernel, rfl⟩
theorem dMod_pack_77 : uD prog_11_method_34_code 77 (.iconst 1) 1 78 := ⟨by decide +kernel, rfl⟩
theorem dMod_pack_78 : uD prog_11_method_34_code 78 (.iadd) 1 79 := ⟨by decide +kernel, rfl⟩
theorem dMod_pack_79 : uD prog_11_method_34_code 79 (.iload_n 2) 1 80 := ⟨by decide +kernel, rfl⟩
theorem dMod_pack_80 : uD prog_11_method_34_code 80 (.iadd) 1 81 := ⟨by decide +kernel, rfl⟩
theorem dMod_pack_81 : uD prog_11_method_34_code 81 (.aload_n 0) 1 82 := ⟨by decide +kernel, rfl⟩
theorem dMod_pack_82 : uD prog_11_method_34_code 82 (.getfield 61) 3 85 := ⟨by decide +kernel, rfl⟩
theorem dMod_pack_85 : uD prog_11_method_34_code 85 (.iload_n 2) 1 86 := ⟨by decide +kernel, rfl⟩
theorem dMod_pack_86 : uD prog_11_method_34_code 86 (.caload) 1 87 := ⟨by decide +kernel, rfl⟩
theorem dMod_pack_87 : uD prog_11_method_34_code 87 (.iastore) 1 88 := ⟨by decide +kernel, rfl⟩
theorem dMod_pack_88 : uD prog_11_method_34_code 88 (.iinc 2 1) 3 91 := ⟨by decide +kernel, rfl⟩
theorem dMod_pack_91 : uB prog_11_method_34_code 91 .goto 94 64 := ⟨-27, by decide +kernel, rfl, by decide⟩
theorem dMod_pack_94 : uD prog_11_method_34_code 94 (.iconst 0) 1 95 := ⟨by decide +kernel, rfl⟩
theorem dMod_pack_95 : uD prog_11_method_34_code 95 (.istore_n 2) 1 96 := ⟨by decide +kernel, rfl⟩
theorem dMod_pack_96 : uD prog_11_method_34_code 96 (.iload_n 2) 1 97 := ⟨by decide +kernel, rfl⟩
theorem dMod_pack_97 : uD prog_11_method_34_code 97 (.bipush 6) 2 99 := ⟨by decide +kernel, rfl⟩
theorem dMod_pack_99 : uB prog_11_method_34_code 99 (.if_icmp .ge) 102 125 := ⟨26, by decide +kernel, rfl, by decide⟩
theorem dMod_pack_102 : uD prog_11_method_34_code 102 (.aload_n 0) 1 103 := ⟨by decide +kernel, rfl⟩
theorem dMod_pack_103 : uD prog_11_method_34_code 103 (.getfield 7) 3 106 := ⟨by decide +kernel, rfl⟩
theorem dMod_pack_106 : uD prog_11_method_34_code 106 (.iload_n 1) 1 107 := ⟨by decide +kernel, rfl⟩
theorem dMod_pack_107 : uD prog_11_method_34_code 107 (.bipush 101) 2 109 := ⟨by decide +kernel, rfl⟩
theorem dMod_pack_109 : uD prog_11_method_34_code 109 (.iadd) 1 110 := ⟨by decide +kernel, rfl⟩
theorem dMod_pack_110 : uD prog_11_method_34_code 110 (.iload_n 2) 1 111 := ⟨by decide +kernel, rfl⟩
theorem dMod_pack_111 : uD prog_11_method_34_code 111 (.iadd) 1 112 := ⟨by decide +kernel, rfl⟩
theorem dMod_pack_112 : uD prog_11_method_34_code 112 (.aload_n 0) 1 113 := ⟨by decide +kernel, rfl⟩
theorem dMod_pack_113 : uD prog_11_method_34_code 113 (.getfield 7) 3 116 := ⟨by decide +kernel, rfl⟩
theorem dMod_pack_116 : uD prog_11_method_34_code 116 (.iload_n 2) 1 117 := ⟨by decide +kernel, rfl⟩
theorem dMod_pack_117 : uD prog_11_method_34_code 117 (.iaload) 1 118 := ⟨by decide +kernel, rfl⟩
theorem dMod_pack_118 : uD prog_11_method_34_code 118 (.iastore) 1 119 := ⟨by decide +kernel, rfl⟩
theorem dMod_pack_119 : uD prog_11_method_34_code 119 (.iinc 2 1) 3 122 := ⟨by decide +kernel, rfl⟩
theorem dMod_pack_122 : uB prog_11_method_34_code 122 .goto 125 96 := ⟨-26, by decide +kernel, rfl, by decide⟩
theorem dMod_pack_125 : uD prog_11_method_34_code 125 (.aload_n 0) 1 126 := ⟨by decide +kernel, rfl⟩
theorem dMod_pack_126 : uD prog_11_method_34_code 126 (.getfield 7) 3 129 := ⟨by decide +kernel, rfl⟩
theorem dMod_pack_129 : uD prog_11_method_34_code 129 (.bipush 6) 2 131 := ⟨by decide +kernel, rfl⟩
theorem dMod_pack_131 : uD prog_11_method_34_code 131 (.dup2) 1 132 := ⟨by decide +kernel, rfl⟩
theorem dMod_pack_132 : uD prog_11_method_34_code 132 (.iaload) 1 133 := ⟨by decide +kernel, rfl⟩
theorem dMod_pack_133 : uD prog_11_method_34_code 133 (.iconst 1) 1 134 := ⟨by decide +kernel, rfl⟩
theorem dMod_pack_134 : uD prog_11_method_34_code 134 (.iadd) 1 135 := ⟨by decide +kernel, rfl⟩
theorem dMod_pack_135 : uD prog_11_method_34_code 135 (.iastore) 1 136 := ⟨by decide +kernel, rfl⟩
theorem dMod_pack_136 : uD prog_11_method_34_code 136 (.aload_n 0) 1 137 := ⟨by decide +kernel, rfl⟩
theorem dMod_pack_137 : uD prog_11_method_34_code 137 (.aload_n 0) 1 138 := ⟨by decide +kernel, rfl⟩
theorem dMod_pack_138 : uD prog_11_method_34_code 138 (.getfield 7) 3 141 := ⟨by decide +kernel, rfl⟩
theorem dMod_pack_141 : uD prog_11_method_34_code 141 (.bipush 6) 2 143 := ⟨by decide +kernel, rfl⟩
theorem dMod_pack_143 : uD prog_11_method_34_code 143 (.iaload) 1 144 := ⟨by decide +kernel, rfl⟩
theorem dMod_pack_144 : uD prog_11_method_34_code 144 (.invokevirtual 197) 3 147 := ⟨by decide +kernel, rfl⟩
theorem dMod_pack_147 : uD prog_11_method_34_code 147 (.aload_n 0) 1 148 := ⟨by decide +kernel, rfl⟩
theorem dMod_pack_148 : uD prog_11_method_34_code 148 (.invokevirtual 180) 3 151 := ⟨by decide +kernel, rfl⟩
theorem dMod_pack_151 : uD prog_11_method_34_code 151 (.ireturn) 1 152 := ⟨by decide +kernel, rfl⟩
theorem dMod_unpackLast_0 : uD prog_11_method_35_code 0 (.aload_n 0) 1 1 := ⟨by decide +kernel, rfl⟩
theorem dMod_unpackLast_1 : uD prog_11_method_35_code 1 (.getfield 7) 3 4 := ⟨by decide +kernel, rfl⟩
theorem dMod_unpackLast_4 : uD prog_11_method_35_code 4 (.bipush 6) 2 6 := ⟨by decide +kernel, rfl⟩
theorem dMod_unpackLast_6 : uD prog_11_method_35_code 6 (.iaload) 1 7 := ⟨by decide +kernel, rfl⟩
theorem dMod_unpackLast_7 : uB prog_11_method_35_code 7 (.ifCond .ne) 10 13 := ⟨6, by decide +kernel, rfl, by decide⟩
theorem dMod_unpackLast_10 : uD prog_11_method_35_code 10 (.bipush (-4)) 2 12 := ⟨by decide +kernel, rfl⟩
theorem dMod_unpackLast_12 : uD prog_11_method_35_code 12 (.ireturn) 1 13 := ⟨by decide +kernel, rfl⟩
theorem dMod_unpackLast_13 : uD prog_11_method_35_code 13 (.aload_n 0) 1 14 := ⟨by decide +kernel, rfl⟩
theorem dMod_unpackLast_14 : uD prog_11_method_35_code 14 (.invokevirtual 188) 3 17 := ⟨by decide +kernel, rfl⟩
theorem dMod_unpackLast_17 : uD prog_11_method_35_code 17 (.aload_n 0) 1 18 := ⟨by decide +kernel, rfl⟩
theorem dMod_unpackLast_18 : uD prog_11_method_35_code 18 (.getfield 7) 3 21 := ⟨by decide +kernel, rfl⟩
theorem dMod_unpackLast_21 : uD prog_11_method_35_code 21 (.bipush 6) 2 23 := ⟨by decide +kernel, rfl⟩
theorem dMod_unpackLast_23 : uD prog_11_method_35_code 23 (.dup2) 1 24 := ⟨by decide +kernel, rfl⟩
theorem dMod_unpackLast_24 : uD prog_11_method_35_code 24 (.iaload) 1 25 := ⟨by decide +kernel, rfl⟩
theorem dMod_unpackLast_25 : uD prog_11_method_35_code 25 (.iconst 1) 1 26 := ⟨by decide +kernel, rfl⟩
theorem dMod_unpackLast_26 : uD prog_11_method_35_code 26 (.isub) 1 27 := ⟨by decide +kernel, rfl⟩
theorem dMod_unpackLast_27 : uD prog_11_method_35_code 27 (.iastore) 1 28 := ⟨by decide +kernel, rfl⟩
theorem dMod_unpackLast_28 : uD prog_11_method_35_code 28 (.aload_n 0) 1 29 := ⟨by decide +kernel, rfl⟩
theorem dMod_unpackLast_29 : uD prog_11_method_35_code 29 (.getfield 7) 3 32 := ⟨by decide +kernel, rfl⟩
theorem dMod_unpackLast_32 : uD prog_11_method_35_code 32 (.bipush 6) 2 34 := ⟨by decide +kernel, rfl⟩
theorem dMod_unpackLast_34 : uD prog_11_method_35_code 34 (.iaload) 1 35 := ⟨by decide +kernel, rfl⟩
theorem dMod_unpackLast_35 : uD prog_11_method_35_code 35 (.ireturn) 1 36 := ⟨by decide +kernel, rfl⟩
theorem dMod_first_0 : uD prog_11_method_36_code 0 (.aload_n 0) 1 1 := ⟨by decide +kernel, rfl⟩
theorem dMod_first_1 : uD prog_11_method_36_code 1 (.iload_n 1) 1 2 := ⟨by decide +kernel, rfl⟩
theorem dMod_first_2 : uD prog_11_method_36_code 2 (.invokevirtual 200) 3 5 := ⟨by decide +kernel, rfl⟩
theorem dMod_first_5 : uB prog_11_method_36_code 5 (.ifCond .eq) 8 10 := ⟨5, by decide +kernel, rfl, by decide⟩
theorem dMod_first_8 : uD prog_11_method_36_code 8 (.iconst (-1)) 1 9 := ⟨by decide +kernel, rfl⟩
theorem dMod_first_9 : uD prog_11_method_36_code 9 (.ireturn) 1 10 := ⟨by decide +kernel, rfl⟩
theorem dMod_first_10 : uD prog_11_method_36_code 10 (.iload_n 1) 1 11 := ⟨by decide +kernel, rfl⟩
theorem dMod_first_11 : uB prog_11_method_36_code 11 (.ifCond .ne) 14 17 := ⟨6, by decide +kernel, rfl, by decide⟩
theorem dMod_first_14 : uD prog_11_method_36_code 14 (.bipush (-5)) 2 16 := ⟨by decide +kernel, rfl⟩
theorem dMod_first_16 : uD prog_11_method_36_code 16 (.ireturn) 1 17 := ⟨by decide +kernel, rfl⟩
theorem dMod_first_17 : uD prog_11_method_36_code 17 (.aload_n 0) 1 18 := ⟨by decide +kernel, rfl⟩
theorem dMod_first_18 : uD prog_11_method_36_code 18 (.invokevirtual 188) 3 21 := ⟨by decide +kernel, rfl⟩
theorem dMod_first_21 : uD prog_11_method_36_code 21 (.aload_n 0) 1 22 := ⟨by decide +kernel, rfl⟩
theorem dMod_first_22 : uD prog_11_method_36_code 22 (.invokevirtual 203) 3 25 := ⟨by decide +kernel, rfl⟩
theorem dMod_first_25 : uD prog_11_method_36_code 25 (.istore_n 2) 1 26 := ⟨by decide +kernel, rfl⟩
theorem dMod_first_26 : uD prog_11_method_36_code 26 (.iload_n 1) 1 27 := ⟨by decide +kernel, rfl⟩
theorem dMod_first_27 : uD prog_11_method_36_code 27 (.istore_n 3) 1 28 := ⟨by decide +kernel, rfl⟩
theorem dMod_first_28 : uD prog_11_method_36_code 28 (.iload_n 3) 1 29 := ⟨by decide +kernel, rfl⟩
theorem dMod_first_29 : uB prog_11_method_36_code 29 (.ifCond .le) 32 124 := ⟨95, by decide +kernel, rfl, by decide⟩
theorem dMod_first_32 : uD prog_11_method_36_code 32 (.iconst 0) 1 33 := ⟨by decide +kernel, rfl⟩
theorem dMod_first_33 : uD prog_11_method_36_code 33 (.istore 4) 2 35 := ⟨by decide +kernel, rfl⟩
theorem dMod_first_35 : uD prog_11_method_36_code 35 (.iload 4) 2 37 := ⟨by decide +kernel, rfl⟩
theorem dMod_first_37 : uD prog_11_method_36_code 37 (.bipush 107) 2 39 := ⟨by decide +kernel, rfl⟩
theorem dMod_first_39 : uB prog_11_method_36_code 39 (.if_icmp .ge) 42 118 := ⟨79, by decide +kernel, rfl, by decide⟩
theorem dMod_first_42 : uD prog_11_method_36_code 42 (.aload_n 0) 1 43 := ⟨by decide +kernel, rfl⟩
theorem dMod_first_43 : uD prog_11_method_36_code 43 (.getfield 7) 3 46 := ⟨by decide +kernel, rfl⟩
theorem dMod_first_46 : uD prog_11_method_36_code 46 (.bipush 7) 2 48 := ⟨by decide +kernel, rfl⟩
theorem dMod_first_48 : uD prog_11_method_36_code 48 (.bipush 107) 2 50 := ⟨by decide +kernel, rfl⟩
theorem dMod_first_50 : uD prog_11_method_36_code 50 (.iload_n 3) 1 51 := ⟨by decide +kernel, rfl⟩
theorem dMod_first_51 : uD prog_11_method_36_code 51 (.imul) 1 52 := ⟨by decide +kernel, rfl⟩
theorem dMod_first_52 : uD prog_11_method_36_code 52 (.iadd) 1 53 := ⟨by decide +kernel, rfl⟩
theorem dMod_first_53 : uD prog_11_method_36_code 53 (.iload 4) 2 55 := ⟨by decide +kernel, rfl⟩
theorem dMod_first_55 : uD prog_11_method_36_code 55 (.iadd) 1 56 := ⟨by decide +kernel, rfl⟩
theorem dMod_first_56 : uD prog_11_method_36_code 56 (.iaload) 1 57 := ⟨by decide +kernel, rfl⟩
theorem dMod_first_57 : uD prog_11_method_36_code 57 (.istore 5) 2 59 := ⟨by decide +kernel, rfl⟩
theorem dMod_first_59 : uD prog_11_method_36_code 59 (.aload_n 0) 1 60 := ⟨by decide +kernel, rfl⟩
theorem dMod_first_60 : uD prog_11_method_36_code 60 (.getfield 7) 3 63 := ⟨by decide +kernel, rfl⟩
theorem dMod_first_63 : uD prog_11_method_36_code 63 (.bipush 7) 2 65 := ⟨by decide +kernel, rfl⟩
theorem dMod_first_65 : uD prog_11_method_36_code 65 (.bipush 107) 2 67 := ⟨by decide +kernel, rfl⟩
theorem dMod_first_67 : uD prog_11_method_36_code 67 (.iload_n 3) 1 68 := ⟨by decide +kernel, rfl⟩
theorem dMod_first_68 : uD prog_11_method_36_code 68 (.imul) 1 69 := ⟨by decide +kernel, rfl⟩
theorem dMod_first_69 : uD prog_11_method_36_code 69 (.iadd) 1 70 := ⟨by decide +kernel, rfl⟩
theorem dMod_first_70 : uD prog_11_method_36_code 70 (.iload 4) 2 72 := ⟨by decide +kernel, rfl⟩
theorem dMod_first_72 : uD prog_11_method_36_code 72 (.iadd) 1 73 := ⟨by decide +kernel, rfl⟩
theorem dMod_first_73 : uD prog_11_method_36_code 73 (.aload_n 0) 1 74 := ⟨by decide +kernel, rfl⟩
theorem dMod_first_74 : uD prog_11_method_36_code 74 (.getfield 7) 3 77 := ⟨by decide +kernel, rfl⟩
theorem dMod_first_77 : uD prog_11_method_36_code 77 (.bipush 7) 2 79 := ⟨by decide +kernel, rfl⟩
theorem dMod_first_79 : uD prog_11_method_36_code 79 (.bipush 107) 2 81 := ⟨by decide +kernel, rfl⟩
theorem dMod_first_81 : uD prog_11_method_36_code 81 (.iload_n 3) 1 82 := ⟨by decide +kernel, rfl⟩
theorem dMod_first_82 : uD prog_11_method_36_code 82 (.imul) 1 83 := ⟨by decide +kernel, rfl⟩
theorem dMod_first_83 : uD prog_11_method_36_code 83 (.iadd) 1 84 := ⟨by decide +kernel, rfl⟩
theorem dMod_first_84 : uD prog_11_method_36_code 84 (.bipush 107) 2 86 := ⟨by decide +kernel, rfl⟩
theorem dMod_first_86 : uD prog_11_method_36_code 86 (.isub) 1 87 := ⟨by decide +kernel, rfl⟩
theorem dMod_first_87 : uD prog_11_method_36_code 87 (.iload 4) 2 89 := ⟨by decide +kernel, rfl⟩
theorem dMod_first_89 : uD prog_11_method_36_code 89 (.iadd) 1 90 := ⟨by decide +kernel, rfl⟩
theorem dMod_first_90 : uD prog_11_method_36_code 90 (.iaload) 1 91 := ⟨by decide +kernel, rfl⟩
theorem dMod_first_91 : uD prog_11_method_36_code 91 (.iastore) 1 92 := ⟨by decide +kernel, rfl⟩
theorem dMod_first_92 : uD prog_11_method_36_code 92 (.aload_n 0) 1 93 := ⟨by decide +kernel, rfl⟩
theorem dMod_first_93 : uD prog_11_method_36_code 93 (.getfield 7) 3 96 := ⟨by decide +kernel, rfl⟩
theorem dMod_first_96 : uD prog_11_method_36_code 96 (.bipush 7) 2 98 := ⟨by decide +kernel, rfl⟩
theorem dMod_first_98 : uD prog_11_method_36_code 98 (.bipush 107) 2 100 := ⟨by decide +kernel, rfl⟩
theorem dMod_first_100 : uD prog_11_method_36_code 100 (.iload_n 3) 1 101 := ⟨by decide +kernel, rfl⟩
theorem dMod_first_101 : uD prog_11_method_36_code 101 (.imul) 1 102 := ⟨by decide +kernel, rfl⟩
theorem dMod_first_102 : uD prog_11_method_36_code 102 (.iadd) 1 103 := ⟨by decide +kernel, rfl⟩
theorem dMod_first_103 : uD prog_11_method_36_code 103 (.bipush 107) 2 105 := ⟨by decide +kernel, rfl⟩
theorem dMod_first_105 : uD prog_11_method_36_code 105 (.isub) 1 106 := ⟨by decide +kernel, rfl⟩
theorem dMod_first_106 : uD prog_11_method_36_code 106 (.iload 4) 2 108 := ⟨by decide +kernel, rfl⟩
theorem dMod_first_108 : uD prog_11_method_36_code 108 (.iadd) 1 109 := ⟨by decide +kernel, rfl⟩
theorem dMod_first_109 : uD prog_11_method_36_code 109 (.iload 5) 2 111 := ⟨by decide +kernel, rfl⟩
theorem dMod_first_111 : uD prog_11_method_36_code 111 (.iastore) 1 112 := ⟨by decide +kernel, rfl⟩
theorem dMod_first_112 : uD prog_11_method_36_code 112 (.iinc 4 1) 3 115 := ⟨by decide +kernel, rfl⟩
theorem dMod_first_115 : uB prog_11_method_36_code 115 .goto 118 35 := ⟨-80, by decide +kernel, rfl, by decide⟩
theorem dMod_first_118 : uD prog_11_method_36_code 118 (.iinc 3 (-1)) 3 121 := ⟨by decide +kernel, rfl⟩
theorem dMod_first_121 : uB prog_11_method_36_code 121 .goto 124 28 := ⟨-93, by decide +kernel, rfl, by decide⟩
theorem dMod_first_124 : uD prog_11_method_36_code 124 (.iload_n 2) 1 125 := ⟨by decide +kernel, rfl⟩
theorem dMod_first_125 : uD prog_11_method_36_code 125 (.aload_n 0) 1 126 := ⟨by decide +kernel, rfl⟩
theorem dMod_first_126 : uD prog_11_method_36_code 126 (.invokevirtual 203) 3 129 := ⟨by decide +kernel, rfl⟩
theorem dMod_first_129 : uD prog_11_method_36_code 129 (.isub) 1 130 := ⟨by decide +kernel, rfl⟩
theorem dMod_first_130 : uD prog_11_method_36_code 130 (.sipush 10000) 3 133 := ⟨by decide +kernel, rfl⟩
theorem dMod_first_133 : uD prog_11_method_36_code 133 (.iadd) 1 134 := ⟨by decide +kernel, rfl⟩
theorem dMod_first_134 : uD prog_11_method_36_code 134 (.ireturn) 1 135 := ⟨by decide +kernel, rfl⟩
theorem dMod_type_0 : uD prog_11_method_37_code 0 (.aload_n 0) 1 1 := ⟨by decide +kernel, rfl⟩
theorem dMod_type_1 : uD prog_11_method_37_code 1 (.getfield 140) 3 4 := ⟨by decide +kernel, rfl⟩
theorem dMod_type_4 : uD prog_11_method_37_code 4 (.bipush 100) 2 6 := ⟨by decide +kernel, rfl⟩
theorem dMod_type_6 : uB prog_11_method_37_code 6 (.if_icmp .ne) 9 12 := ⟨6, by decide +kernel, rfl, by decide⟩
theorem dMod_type_9 : uD prog_11_method_37_code 9 (.bipush (-3)) 2 11 := ⟨by decide +kernel, rfl⟩
theorem dMod_type_11 : uD prog_11_method_37_code 11 (.ireturn) 1 12 := ⟨by decide +kernel, rfl⟩
theorem dMod_type_12 : uD prog_11_method_37_code 12 (.aload_n 0) 1 13 := ⟨by decide +kernel, rfl⟩
theorem dMod_type_13 : uD prog_11_method_37_code 13 (.getfield 61) 3 16 := ⟨by decide +kernel, rfl⟩
theorem dMod_type_16 : uD prog_11_method_37_code 16 (.aload_n 0) 1 17 := ⟨by decide +kernel, rfl⟩
theorem dMod_type_17 : uD prog_11_method_37_code 17 (.getfield 140) 3 20 := ⟨by decide +kernel, rfl⟩
theorem dMod_type_20 : uD prog_11_method_37_code 20 (.iload_n 1) 1 21 := ⟨by decide +kernel, rfl⟩
theorem dMod_type_21 : uD prog_11_method_37_code 21 (.castore) 1 22 := ⟨by decide +kernel, rfl⟩
theorem dMod_type_22 : uD prog_11_method_37_code 22 (.aload_n 0) 1 23 := ⟨by decide +kernel, rfl⟩
theorem dMod_type_23 : uD prog_11_method_37_code 23 (.dup) 1 24 := ⟨by decide +kernel, rfl⟩
theorem dMod_type_24 : uD prog_11_method_37_code 24 (.getfield 140) 3 27 := ⟨by decide +kernel, rfl⟩
theorem dMod_type_27 : uD prog_11_method_37_code 27 (.iconst 1) 1 28 := ⟨by decide +kernel, rfl⟩
theorem dMod_type_28 : uD prog_11_method_37_code 28 (.iadd) 1 29 := ⟨by decide +kernel, rfl⟩
theorem dMod_type_29 : uD prog_11_method_37_code 29 (.putfield 140) 3 32 := ⟨by decide +kernel, rfl⟩
theorem dMod_type_32 : uD prog_11_method_37_code 32 (.aload_n 0) 1 33 := ⟨by decide +kernel, rfl⟩
theorem dMod_type_33 : uD prog_11_method_37_code 33 (.getfield 140) 3 36 := ⟨by decide +kernel, rfl⟩
theorem dMod_type_36 : uD prog_11_method_37_code 36 (.ireturn) 1 37 := ⟨by decide +kernel, rfl⟩
theorem dMod_clearText_0 : uD prog_11_method_38_code 0 (.aload_n 0) 1 1 := ⟨by decide +kernel, rfl⟩
theorem dMod_clearText_1 : uD prog_11_method_38_code 1 (.getfield 140) 3 4 := ⟨by decide +kernel, rfl⟩
theorem dMod_clearText_4 : uD prog_11_method_38_code 4 (.istore_n 1) 1 5 := ⟨by decide +kernel, rfl⟩
theorem dMod_clearText_5 : uD prog_11_method_38_code 5 (.aload_n 0) 1 6 := ⟨by decide +kernel, rfl⟩
theorem dMod_clearText_6 : uD prog_11_method_38_code 6 (.iconst 0) 1 7 := ⟨by decide +kernel, rfl⟩
theorem dMod_clearText_7 : uD prog_11_method_38_code 7 (.putfield 140) 3 10 := ⟨by decide +kernel, rfl⟩
theorem dMod_clearText_10 : uD prog_11_method_38_code 10 (.iload_n 1) 1 11 := ⟨by decide +kernel, rfl⟩
theorem dMod_clearText_11 : uD prog_11_method_38_code 11 (.ireturn) 1 12 := ⟨by decide +kernel, rfl⟩
theorem dMod_fault_0 : uD prog_11_method_39_code 0 (.iload_n 1) 1 1 := ⟨by decide +kernel, rfl⟩
theorem dMod_fault_1 : uD prog_11_method_39_code 1 (.iconst 0) 1 2 := ⟨by decide +kernel, rfl⟩
theorem dMod_fault_2 : uD prog_11_method_39_code 2 (.iconst 2) 1 3 := ⟨by decide +kernel, rfl⟩
theorem dMod_fault_3 : uD prog_11_method_39_code 3 (.invokestatic 71) 3 6 := ⟨by decide +kernel, rfl⟩
theorem dMod_fault_6 : uB prog_11_method_39_code 6 (.ifCond .ne) 9 12 := ⟨6, by decide +kernel, rfl, by decide⟩
theorem dMod_fault_9 : uD prog_11_method_39_code 9 (.bipush (-2)) 2 11 := ⟨by decide +kernel, rfl⟩
theorem dMod_fault_11 : uD prog_11_method_39_code 11 (.ireturn) 1 12 := ⟨by decide +kernel, rfl⟩
theorem dMod_fault_12 : uD prog_11_method_39_code 12 (.aload_n 0) 1 13 := ⟨by decide +kernel, rfl⟩
theorem dMod_fault_13 : uD prog_11_method_39_code 13 (.invokevirtual 194) 3 16 := ⟨by decide +kernel, rfl⟩
theorem dMod_fault_16 : uD prog_11_method_39_code 16 (.aload_n 0) 1 17 := ⟨by decide +kernel, rfl⟩
theorem dMod_fault_17 : uD prog_11_method_39_code 17 (.invokevirtual 143) 3 20 := ⟨by decide +kernel, rfl⟩
theorem dMod_fault_20 : uB prog_11_method_39_code 20 (.ifCond .eq) 23 26 := ⟨6, by decide +kernel, rfl, by decide⟩
theorem dMod_fault_23 : uD prog_11_method_39_code 23 (.bipush (-5)) 2 25 := ⟨by decide +kernel, rfl⟩
theorem dMod_fault_25 : uD prog_11_method_39_code 25 (.ireturn) 1 26 := ⟨by decide +kernel, rfl⟩
theorem dMod_fault_26 : uD prog_11_method_39_code 26 (.iload_n 1) 1 27 := ⟨by decide +kernel, rfl⟩
theorem dMod_fault_27 : uB prog_11_method_39_code 27 (.ifCond .ne) 30 37 := ⟨10, by decide +kernel, rfl, by decide⟩
theorem dMod_fault_30 : uD prog_11_method_39_code 30 (.aload_n 0) 1 31 := ⟨by decide +kernel, rfl⟩
theorem dMod_fault_31 : uD prog_11_method_39_code 31 (.getfield 79) 3 34 := ⟨by decide +kernel, rfl⟩
theorem dMod_fault_34 : uB prog_11_method_39_code 34 .goto 37 53 := ⟨19, by decide +kernel, rfl, by decide⟩
theorem dMod_fault_37 : uD prog_11_method_39_code 37 (.iload_n 1) 1 38 := ⟨by decide +kernel, rfl⟩
theorem dMod_fault_38 : uD prog_11_method_39_code 38 (.iconst 1) 1 39 := ⟨by decide +kernel, rfl⟩
theorem dMod_fault_39 : uB prog_11_method_39_code 39 (.if_icmp .ne) 42 49 := ⟨10, by decide +kernel, rfl, by decide⟩
theorem dMod_fault_42 : uD prog_11_method_39_code 42 (.aload_n 0) 1 43 := ⟨by decide +kernel, rfl⟩
theorem dMod_fault_43 : uD prog_11_method_39_code 43 (.getfield 85) 3 46 := ⟨by decide +kernel, rfl⟩
theorem dMod_fault_46 : uB prog_11_method_39_code 46 .goto 49 53 := ⟨7, by decide +kernel, rfl, by decide⟩
theorem dMod_fault_49 : uD prog_11_method_39_code 49 (.aload_n 0) 1 50 := ⟨by decide +kernel, rfl⟩
theorem dMod_fault_50 : uD prog_11_method_39_code 50 (.getfield 88) 3 53 := ⟨by decide +kernel, rfl⟩
theorem dMod_fault_53 : uD prog_11_method_39_code 53 (.ireturn) 1 54 := ⟨by decide +kernel, rfl⟩
theorem dMod_undo_0 : uD prog_11_method_40_code 0 (.aload_n 0) 1 1 := ⟨by decide +kernel, rfl⟩
theorem dMod_undo_1 : uD prog_11_method_40_code 1 (.getfield 75) 3 4 := ⟨by decide +kernel, rfl⟩
theorem dMod_undo_4 : uB prog_11_method_40_code 4 (.ifCond .ne) 7 10 := ⟨6, by decide +kernel, rfl, by decide⟩
theorem dMod_undo_7 : uD prog_11_method_40_code 7 (.bipush (-5)) 2 9 := ⟨by decide +kernel, rfl⟩
theorem dMod_undo_9 : uD prog_11_method_40_code 9 (.ireturn) 1 10 := ⟨by decide +kernel, rfl⟩
theorem dMod_undo_10 : uD prog_11_method_40_code 10 (.aload_n 0) 1 11 := ⟨by decide +kernel, rfl⟩
theorem dMod_undo_11 : uD prog_11_method_40_code 11 (.dup) 1 12 := ⟨by decide +kernel, rfl⟩
theorem dMod_undo_12 : uD prog_11_method_40_code 12 (.getfield 75) 3 15 := ⟨by decide +kernel, rfl⟩
theorem dMod_undo_15 : uD prog_11_method_40_code 15 (.iconst 1) 1 16 := ⟨by decide +kernel, rfl⟩
theorem dMod_undo_16 : uD prog_11_method_40_code 16 (.isub) 1 17 := ⟨by decide +kernel, rfl⟩
theorem dMod_undo_17 : uD prog_11_method_40_code 17 (.putfield 75) 3 20 := ⟨by decide +kernel, rfl⟩
theorem dMod_undo_20 : uD prog_11_method_40_code 20 (.iconst 0) 1 21 := ⟨by decide +kernel, rfl⟩
theorem dMod_undo_21 : uD prog_11_method_40_code 21 (.istore_n 1) 1 22 := ⟨by decide +kernel, rfl⟩
theorem dMod_undo_22 : uD prog_11_method_40_code 22 (.iload_n 1) 1 23 := ⟨by decide +kernel, rfl⟩
theorem dMod_undo_23 : uD prog_11_method_40_code 23 (.sipush 649) 3 26 := ⟨by decide +kernel, rfl⟩
theorem dMod_undo_26 : uB prog_11_method_40_code 26 (.if_icmp .ge) 29 56 := ⟨30, by decide +kernel, rfl, by decide⟩
theorem dMod_undo_29 : uD prog_11_method_40_code 29 (.aload_n 0) 1 30 := ⟨by decide +kernel, rfl⟩
theorem dMod_undo_30 : uD prog_11_method_40_code 30 (.getfield 7) 3 33 := ⟨by decide +kernel, rfl⟩
theorem dMod_undo_33 : uD prog_11_method_40_code 33 (.iload_n 1) 1 34 := ⟨by decide +kernel, rfl⟩
theorem dMod_undo_34 : uD prog_11_method_40_code 34 (.aload_n 0) 1 35 := ⟨by decide +kernel, rfl⟩
theorem dMod_undo_35 : uD prog_11_method_40_code 35 (.getfield 13) 3 38 := ⟨by decide +kernel, rfl⟩
theorem dMod_undo_38 : uD prog_11_method_40_code 38 (.sipush 649) 3 41 := ⟨by decide +kernel, rfl⟩
theorem dMod_undo_41 : uD prog_11_method_40_code 41 (.aload_n 0) 1 42 := ⟨by decide +kernel, rfl⟩
theorem dMod_undo_42 : uD prog_11_method_40_code 42 (.getfield 75) 3 45 := ⟨by decide +kernel, rfl⟩
theorem dMod_undo_45 : uD prog_11_method_40_code 45 (.imul) 1 46 := ⟨by decide +kernel, rfl⟩
theorem dMod_undo_46 : uD prog_11_method_40_code 46 (.iload_n 1) 1 47 := ⟨by decide +kernel, rfl⟩
theorem dMod_undo_47 : uD prog_11_method_40_code 47 (.iadd) 1 48 := ⟨by decide +kernel, rfl⟩
theorem dMod_undo_48 : uD prog_11_method_40_code 48 (.iaload) 1 49 := ⟨by decide +kernel, rfl⟩
theorem dMod_undo_49 : uD prog_11_method_40_code 49 (.iastore) 1 50 := ⟨by decide +kernel, rfl⟩
theorem dMod_undo_50 : uD prog_11_method_40_code 50 (.iinc 1 1) 3 53 := ⟨by decide +kernel, rfl⟩
theorem dMod_undo_53 : uB prog_11_method_40_code 53 .goto 56 22 := ⟨-31, by decide +kernel, rfl, by decide⟩
theorem dMod_undo_56 : uD prog_11_method_40_code 56 (.aload_n 0) 1 57 := ⟨by decide +kernel, rfl⟩
theorem dMod_undo_57 : uD prog_11_method_40_code 57 (.getfield 75) 3 60 := ⟨by decide +kernel, rfl⟩
theorem dMod_undo_60 : uD prog_11_method_40_code 60 (.ireturn) 1 61 := ⟨by decide +kernel, rfl⟩
theorem dMod_keep_0 : uD prog_11_method_41_code 0 (.iconst 0) 1 1 := ⟨by decide +kernel, rfl⟩
theorem dMod_keep_1 : uD prog_11_method_41_code 1 (.istore_n 1) 1 2 := ⟨by decide +kernel, rfl⟩
theorem dMod_keep_2 : uD prog_11_method_41_code 2 (.iload_n 1) 1 3 := ⟨by decide +kernel, rfl⟩
theorem dMod_keep_3 : uD prog_11_method_41_code 3 (.sipush 649) 3 6 := ⟨by decide +kernel, rfl⟩
theorem dMod_keep_6 : uB prog_11_method_41_code 6 (.if_icmp .ge) 9 27 := ⟨21, by decide +kernel, rfl, by decide⟩
theorem dMod_keep_9 : uD prog_11_method_41_code 9 (.aload_n 0) 1 10 := ⟨by decide +kernel, rfl⟩
theorem dMod_keep_10 : uD prog_11_method_41_code 10 (.getfield 16) 3 13 := ⟨by decide +kernel, rfl⟩
theorem dMod_keep_13 : uD prog_11_method_41_code 13 (.iload_n 1) 1 14 := ⟨by decide +kernel, rfl⟩
theorem dMod_keep_14 : uD prog_11_method_41_code 14 (.aload_n 0) 1 15 := ⟨by decide +kernel, rfl⟩
theorem dMod_keep_15 : uD prog_11_method_41_code 15 (.getfield 7) 3 18 := ⟨by decide +kernel, rfl⟩
theorem dMod_keep_18 : uD prog_11_method_41_code 18 (.iload_n 1) 1 19 := ⟨by decide +kernel, rfl⟩
theorem dMod_keep_19 : uD prog_11_method_41_code 19 (.iaload) 1 20 := ⟨by decide +kernel, rfl⟩
theorem dMod_keep_20 : uD prog_11_method_41_code 20 (.iastore) 1 21 := ⟨by decide +kernel, rfl⟩
theorem dMod_keep_21 : uD prog_11_method_41_code 21 (.iinc 1 1) 3 24 := ⟨by decide +kernel, rfl⟩
theorem dMod_keep_24 : uB prog_11_method_41_code 24 .goto 27 2 := ⟨-22, by decide +kernel, rfl, by decide⟩
theorem dMod_keep_27 : uD prog_11_method_41_code 27 (.aload_n 0) 1 28 := ⟨by decide +kernel, rfl⟩
theorem dMod_keep_28 : uD prog_11_method_41_code 28 (.iconst 1) 1 29 := ⟨by decide +kernel, rfl⟩
theorem dMod_keep_29 : uD prog_11_method_41_code 29 (.putfield 206) 3 32 := ⟨by decide +kernel, rfl⟩
theorem dMod_keep_32 : uD prog_11_method_41_code 32 (.aload_n 0) 1 33 := ⟨by decide +kernel, rfl⟩
theorem dMod_keep_33 : uD prog_11_method_41_code 33 (.getfield 7) 3 36 := ⟨by decide +kernel, rfl⟩
theorem dMod_keep_36 : uD prog_11_method_41_code 36 (.bipush 6) 2 38 := ⟨by decide +kernel, rfl⟩
theorem dMod_keep_38 : uD prog_11_method_41_code 38 (.iaload) 1 39 := ⟨by decide +kernel, rfl⟩
theorem dMod_keep_39 : uD prog_11_method_41_code 39 (.ireturn) 1 40 := ⟨by decide +kernel, rfl⟩
theorem dMod_restore_0 : uD prog_11_method_42_code 0 (.aload_n 0) 1 1 := ⟨by decide +kernel, rfl⟩
theorem dMod_restore_1 : uD prog_11_method_42_code 1 (.getfield 206) 3 4 := ⟨by decide +kernel, rfl⟩
theorem dMod_restore_4 : uB prog_11_method_42_code 4 (.ifCond .ne) 7 10 := ⟨6, by decide +kernel, rfl, by decide⟩
theorem dMod_restore_7 : uD prog_11_method_42_code 7 (.bipush (-5)) 2 9 := ⟨by decide +kernel, rfl⟩
theorem dMod_restore_9 : uD prog_11_method_42_code 9 (.ireturn) 1 10 := ⟨by decide +kernel, rfl⟩
theorem dMod_restore_10 : uD prog_11_method_42_code 10 (.aload_n 0) 1 11 := ⟨by decide +kernel, rfl⟩
theorem dMod_restore_11 : uD prog_11_method_42_code 11 (.invokevirtual 188) 3 14 := ⟨by decide +kernel, rfl⟩
theorem dMod_restore_14 : uD prog_11_method_42_code 14 (.iconst 0) 1 15 := ⟨by decide +kernel, rfl⟩
theorem dMod_restore_15 : uD prog_11_method_42_code 15 (.istore_n 1) 1 16 := ⟨by decide +kernel, rfl⟩
theorem dMod_restore_16 : uD prog_11_method_42_code 16 (.iload_n 1) 1 17 := ⟨by decide +kernel, rfl⟩
theorem dMod_restore_17 : uD prog_11_method_42_code 17 (.sipush 649) 3 20 := ⟨by decide +kernel, rfl⟩
theorem dMod_restore_20 : uB prog_11_method_42_code 20 (.if_icmp .ge) 23 41 := ⟨21, by decide +kernel, rfl, by decide⟩
theorem dMod_restore_23 : uD prog_11_method_42_code 23 (.aload_n 0) 1 24 := ⟨by decide +kernel, rfl⟩
theorem dMod_restore_24 : uD prog_11_method_42_code 24 (.getfield 7) 3 27 := ⟨by decide +kernel, rfl⟩
theorem dMod_restore_27 : uD prog_11_method_42_code 27 (.iload_n 1) 1 28 := ⟨by decide +kernel, rfl⟩
theorem dMod_restore_28 : uD prog_11_method_42_code 28 (.aload_n 0) 1 29 := ⟨by decide +kernel, rfl⟩
theorem dMod_restore_29 : uD prog_11_method_42_code 29 (.getfield 16) 3 32 := ⟨by decide +kernel, rfl⟩
theorem dMod_restore_32 : uD prog_11_method_42_code 32 (.iload_n 1) 1 33 := ⟨by decide +kernel, rfl⟩
theorem dMod_restore_33 : uD prog_11_method_42_code 33 (.iaload) 1 34 := ⟨by decide +kernel, rfl⟩
theorem dMod_restore_34 : uD prog_11_method_42_code 34 (.iastore) 1 35 := ⟨by decide +kernel, rfl⟩
theorem dMod_restore_35 : uD prog_11_method_42_code 35 (.iinc 1 1) 3 38 := ⟨by decide +kernel, rfl⟩
theorem dMod_restore_38 : uB prog_11_method_42_code 38 .goto 41 16 := ⟨-22, by decide +kernel, rfl, by decide⟩
theorem dMod_restore_41 : uD prog_11_method_42_code 41 (.aload_n 0) 1 42 := ⟨by decide +kernel, rfl⟩
theorem dMod_restore_42 : uD prog_11_method_42_code 42 (.getfield 7) 3 45 := ⟨by decide +kernel, rfl⟩
theorem dMod_restore_45 : uD prog_11_method_42_code 45 (.bipush 6) 2 47 := ⟨by decide +kernel, rfl⟩
theorem dMod_restore_47 : uD prog_11_method_42_code 47 (.iaload) 1 48 := ⟨by decide +kernel, rfl⟩
theorem dMod_restore_48 : uD prog_11_method_42_code 48 (.ireturn) 1 49 := ⟨by decide +kernel, rfl⟩
theorem dMod_charAt_0 : uD prog_11_method_43_code 0 (.aload_n 0) 1 1 := ⟨by decide +kernel, rfl⟩
theorem dMod_charAt_1 : uD prog_11_method_43_code 1 (.iload_n 1) 1 2 := ⟨by decide +kernel, rfl⟩
theorem dMod_charAt_2 : uD prog_11_method_43_code 2 (.invokevirtual 200) 3 5 := ⟨by decide +kernel, rfl⟩
theorem dMod_charAt_5 : uB prog_11_method_43_code 5 (.ifCond .eq) 8 10 := ⟨5, by decide +kernel, rfl, by decide⟩
theorem dMod_charAt_8 : uD prog_11_method_43_code 8 (.iconst (-1)) 1 9 := ⟨by decide +kernel, rfl⟩
theorem dMod_charAt_9 : uD prog_11_method_43_code 9 (.ireturn) 1 10 := ⟨by decide +kernel, rfl⟩
theorem dMod_charAt_10 : uD prog_11_method_43_code 10 (.iload_n 2) 1 11 := ⟨by decide +kernel, rfl⟩
theorem dMod_charAt_11 : uB prog_11_method_43_code 11 (.ifCond .ge) 14 17 := ⟨6, by decide +kernel, rfl, by decide⟩
theorem dMod_charAt_14 : uD prog_11_method_43_code 14 (.bipush (-2)) 2 16 := ⟨by decide +kernel, rfl⟩
theorem dMod_charAt_16 : uD prog_11_method_43_code 16 (.ireturn) 1 17 := ⟨by decide +kernel, rfl⟩
theorem dMod_charAt_17 : uD prog_11_method_43_code 17 (.iload_n 2) 1 18 := ⟨by decide +kernel, rfl⟩
theorem dMod_charAt_18 : uD prog_11_method_43_code 18 (.aload_n 0) 1 19 := ⟨by decide +kernel, rfl⟩
theorem dMod_charAt_19 : uD prog_11_method_43_code 19 (.getfield 7) 3 22 := ⟨by decide +kernel, rfl⟩
theorem dMod_charAt_22 : uD prog_11_method_43_code 22 (.bipush 7) 2 24 := ⟨by decide +kernel, rfl⟩
theorem dMod_charAt_24 : uD prog_11_method_43_code 24 (.bipush 107) 2 26 := ⟨by decide +kernel, rfl⟩
theorem dMod_charAt_26 : uD prog_11_method_43_code 26 (.iload_n 1) 1 27 := ⟨by decide +kernel, rfl⟩
theorem dMod_charAt_27 : uD prog_11_method_43_code 27 (.imul) 1 28 := ⟨by decide +kernel, rfl⟩
theorem dMod_charAt_28 : uD prog_11_method_43_code 28 (.iadd) 1 29 := ⟨by decide +kernel, rfl⟩
theorem dMod_charAt_29 : uD prog_11_method_43_code 29 (.iaload) 1 30 := ⟨by decide +kernel, rfl⟩
theorem dMod_charAt_30 : uB prog_11_method_43_code 30 (.if_icmp .ge) 33 52 := ⟨22, by decide +kernel, rfl, by decide⟩
theorem dMod_charAt_33 : uD prog_11_method_43_code 33 (.aload_n 0) 1 34 := ⟨by decide +kernel, rfl⟩
theorem dMod_charAt_34 : uD prog_11_method_43_code 34 (.getfield 7) 3 37 := ⟨by decide +kernel, rfl⟩
theorem dMod_charAt_37 : uD prog_11_method_43_code 37 (.bipush 7) 2 39 := ⟨by decide +kernel, rfl⟩
theorem dMod_charAt_39 : uD prog_11_method_43_code 39 (.bipush 107) 2 41 := ⟨by decide +kernel, rfl⟩
theorem dMod_charAt_41 : uD prog_11_method_43_code 41 (.iload_n 1) 1 42 := ⟨by decide +kernel, rfl⟩
theorem dMod_charAt_42 : uD prog_11_method_43_code 42 (.imul) 1 43 := ⟨by decide +kernel, rfl⟩
theorem dMod_charAt_43 : uD prog_11_method_43_code 43 (.iadd) 1 44 := ⟨by decide +kernel, rfl⟩
theorem dMod_charAt_44 : uD prog_11_method_43_code 44 (.iconst 1) 1 45 := ⟨by decide +kernel, rfl⟩
theorem dMod_charAt_45 : uD prog_11_method_43_code 45 (.iadd) 1 46 := ⟨by decide +kernel, rfl⟩
theorem dMod_charAt_46 : uD prog_11_method_43_code 46 (.iload_n 2) 1 47 := ⟨by decide +kernel, rfl⟩
theorem dMod_charAt_47 : uD prog_11_method_43_code 47 (.iadd) 1 48 := ⟨by decide +kernel, rfl⟩
theorem dMod_charAt_48 : uD prog_11_method_43_code 48 (.iaload) 1 49 := ⟨by decide +kernel, rfl⟩
theorem dMod_charAt_49 : uB prog_11_method_43_code 49 .goto 52 54 := ⟨5, by decide +kernel, rfl, by decide⟩
theorem dMod_charAt_52 : uD prog_11_method_43_code 52 (.bipush (-5)) 2 54 := ⟨by decide +kernel, rfl⟩
theorem dMod_charAt_54 : uD prog_11_method_43_code 54 (.ireturn) 1 55 := ⟨by decide +kernel, rfl⟩
theorem dMod_code_0 : uD prog_11_method_44_code 0 (.aload_n 0) 1 1 := ⟨by decide +kernel, rfl⟩
theorem dMod_code_1 : uD prog_11_method_44_code 1 (.iload_n 1) 1 2 := ⟨by decide +kernel, rfl⟩
theorem dMod_code_2 : uD prog_11_method_44_code 2 (.invokevirtual 200) 3 5 := ⟨by decide +kernel, rfl⟩
theorem dMod_code_5 : uB prog_11_method_44_code 5 (.ifCond .eq) 8 10 := ⟨5, by decide +kernel, rfl, by decide⟩
theorem dMod_code_8 : uD prog_11_method_44_code 8 (.iconst (-1)) 1 9 := ⟨by decide +kernel, rfl⟩
theorem dMod_code_9 : uD prog_11_method_44_code 9 (.ireturn) 1 10 := ⟨by decide +kernel, rfl⟩
theorem dMod_code_10 : uD prog_11_method_44_code 10 (.iload_n 2) 1 11 := ⟨by decide +kernel, rfl⟩
theorem dMod_code_11 : uD prog_11_method_44_code 11 (.iconst 0) 1 12 := ⟨by decide +kernel, rfl⟩
theorem dMod_code_12 : uD prog_11_method_44_code 12 (.iconst 3) 1 13 := ⟨by decide +kernel, rfl⟩
theorem dMod_code_13 : uD prog_11_method_44_code 13 (.invokestatic 71) 3 16 := ⟨by decide +kernel, rfl⟩
theorem dMod_code_16 : uB prog_11_method_44_code 16 (.ifCond .eq) 19 23 := ⟨7, by decide +kernel, rfl, by decide⟩
theorem dMod_code_19 : uD prog_11_method_44_code 19 (.iload_n 3) 1 20 := ⟨by decide +kernel, rfl⟩
theorem dMod_code_20 : uB prog_11_method_44_code 20 (.ifCond .ge) 23 26 := ⟨6, by decide +kernel, rfl, by decide⟩
theorem dMod_code_23 : uD prog_11_method_44_code 23 (.bipush (-2)) 2 25 := ⟨by decide +kernel, rfl⟩
theorem dMod_code_25 : uD prog_11_method_44_code 25 (.ireturn) 1 26 := ⟨by decide +kernel, rfl⟩
theorem dMod_code_26 : uD prog_11_method_44_code 26 (.aload_n 0) 1 27 := ⟨by decide +kernel, rfl⟩
theorem dMod_code_27 : uD prog_11_method_44_code 27 (.iload_n 1) 1 28 := ⟨by decide +kernel, rfl⟩
theorem dMod_code_28 : uD prog_11_method_44_code 28 (.iconst 1) 1 29 := ⟨by decide +kernel, rfl⟩
theorem dMod_code_29 : uD prog_11_method_44_code 29 (.iadd) 1 30 := ⟨by decide +kernel, rfl⟩
theorem dMod_code_30 : uD prog_11_method_44_code 30 (.invokevirtual 197) 3 33 := ⟨by decide +kernel, rfl⟩
theorem dMod_code_33 : uD prog_11_method_44_code 33 (.iload_n 3) 1 34 := ⟨by decide +kernel, rfl⟩
theorem dMod_code_34 : uD prog_11_method_44_code 34 (.aload_n 0) 1 35 := ⟨by decide +kernel, rfl⟩
theorem dMod_code_35 : uD prog_11_method_44_code 35 (.getfield 58) 3 38 := ⟨by decide +kernel, rfl⟩
theorem dMod_code_38 : uD prog_11_method_44_code 38 (.iload_n 2) 1 39 := ⟨by decide +kernel, rfl⟩
theorem dMod_code_39 : uD prog_11_method_44_code 39 (.iaload) 1 40 := ⟨by decide +kernel, rfl⟩
theorem dMod_code_40 : uB prog_11_method_44_code 40 (.if_icmp .ge) 43 58 := ⟨18, by decide +kernel, rfl, by decide⟩
theorem dMod_code_43 : uD prog_11_method_44_code 43 (.aload_n 0) 1 44 := ⟨by decide +kernel, rfl⟩
theorem dMod_code_44 : uD prog_11_method_44_code 44 (.getfield 55) 3 47 := ⟨by decide +kernel, rfl⟩
theorem dMod_code_47 : uD prog_11_method_44_code 47 (.sipush 400) 3 50 := ⟨by decide +kernel, rfl⟩
theorem dMod_code_50 : uD prog_11_method_44_code 50 (.iload_n 2) 1 51 := ⟨by decide +kernel, rfl⟩
theorem dMod_code_51 : uD prog_11_method_44_code 51 (.imul) 1 52 := ⟨by decide +kernel, rfl⟩
theorem dMod_code_52 : uD prog_11_method_44_code 52 (.iload_n 3) 1 53 := ⟨by decide +kernel, rfl⟩
theorem dMod_code_53 : uD prog_11_method_44_code 53 (.iadd) 1 54 := ⟨by decide +kernel, rfl⟩
theorem dMod_code_54 : uD prog_11_method_44_code 54 (.iaload) 1 55 := ⟨by decide +kernel, rfl⟩
theorem dMod_code_55 : uB prog_11_method_44_code 55 .goto 58 60 := ⟨5, by decide +kernel, rfl, by decide⟩
theorem dMod_code_58 : uD prog_11_method_44_code 58 (.bipush (-5)) 2 60 := ⟨by decide +kernel, rfl⟩
theorem dMod_code_60 : uD prog_11_method_44_code 60 (.ireturn) 1 61 := ⟨by decide +kernel, rfl⟩
theorem dMod_bits_0 : uD prog_11_method_45_code 0 (.aload_n 0) 1 1 := ⟨by decide +kernel, rfl⟩
theorem dMod_bits_1 : uD prog_11_method_45_code 1 (.iload_n 1) 1 2 := ⟨by decide +kernel, rfl⟩
theorem dMod_bits_2 : uD prog_11_method_45_code 2 (.invokevirtual 200) 3 5 := ⟨by decide +kernel, rfl⟩
theorem dMod_bits_5 : uB prog_11_method_45_code 5 (.ifCond .eq) 8 10 := ⟨5, by decide +kernel, rfl, by decide⟩
theorem dMod_bits_8 : uD prog_11_method_45_code 8 (.iconst (-1)) 1 9 := ⟨by decide +kernel, rfl⟩
theorem dMod_bits_9 : uD prog_11_method_45_code 9 (.ireturn) 1 10 := ⟨by decide +kernel, rfl⟩
theorem dMod_bits_10 : uD prog_11_method_45_code 10 (.iload_n 2) 1 11 := ⟨by decide +kernel, rfl⟩
theorem dMod_bits_11 : uD prog_11_method_45_code 11 (.iconst 0) 1 12 := ⟨by decide +kernel, rfl⟩
theorem dMod_bits_12 : uD prog_11_method_45_code 12 (.iconst 4) 1 13 := ⟨by decide +kernel, rfl⟩
theorem dMod_bits_13 : uD prog_11_method_45_code 13 (.invokestatic 71) 3 16 := ⟨by decide +kernel, rfl⟩
theorem dMod_bits_16 : uB prog_11_method_45_code 16 (.ifCond .ne) 19 22 := ⟨6, by decide +kernel, rfl, by decide⟩
theorem dMod_bits_19 : uD prog_11_method_45_code 19 (.bipush (-2)) 2 21 := ⟨by decide +kernel, rfl⟩
theorem dMod_bits_21 : uD prog_11_method_45_code 21 (.ireturn) 1 22 := ⟨by decide +kernel, rfl⟩
theorem dMod_bits_22 : uD prog_11_method_45_code 22 (.aload_n 0) 1 23 := ⟨by decide +kernel, rfl⟩
theorem dMod_bits_23 : uD prog_11_method_45_code 23 (.iload_n 1) 1 24 := ⟨by decide +kernel, rfl⟩
theorem dMod_bits_24 : uD prog_11_method_45_code 24 (.iconst 1) 1 25 := ⟨by decide +kernel, rfl⟩
theorem dMod_bits_25 : uD prog_11_method_45_code 25 (.iadd) 1 26 := ⟨by decide +kernel, rfl⟩
theorem dMod_bits_26 : uD prog_11_method_45_code 26 (.invokevirtual 197) 3 29 := ⟨by decide +kernel, rfl⟩
theorem dMod_bits_29 : uD prog_11_method_45_code 29 (.iload_n 2) 1 30 := ⟨by decide +kernel, rfl⟩
theorem dMod_bits_30 : uD prog_11_method_45_code 30 (.iconst 4) 1 31 := ⟨by decide +kernel, rfl⟩
theorem dMod_bits_31 : uB prog_11_method_45_code 31 (.if_icmp .ne) 34 41 := ⟨10, by decide +kernel, rfl, by decide⟩
theorem dMod_bits_34 : uD prog_11_method_45_code 34 (.aload_n 0) 1 35 := ⟨by decide +kernel, rfl⟩
theorem dMod_bits_35 : uD prog_11_method_45_code 35 (.invokevirtual 180) 3 38 := ⟨by decide +kernel, rfl⟩
theorem dMod_bits_38 : uB prog_11_method_45_code 38 .goto 41 46 := ⟨8, by decide +kernel, rfl, by decide⟩
theorem dMod_bits_41 : uD prog_11_method_45_code 41 (.aload_n 0) 1 42 := ⟨by decide +kernel, rfl⟩
theorem dMod_bits_42 : uD prog_11_method_45_code 42 (.iload_n 2) 1 43 := ⟨by decide +kernel, rfl⟩
theorem dMod_bits_43 : uD prog_11_method_45_code 43 (.invokevirtual 177) 3 46 := ⟨by decide +kernel, rfl⟩
theorem dMod_bits_46 : uD prog_11_method_45_code 46 (.ireturn) 1 47 := ⟨by decide +kernel, rfl⟩
theorem dMod_wouldTake_0 : uD prog_11_method_46_code 0 (.aload_n 0) 1 1 := ⟨by decide +kernel, rfl⟩
theorem dMod_wouldTake_1 : uD prog_11_method_46_code 1 (.iload_n 1) 1 2 := ⟨by decide +kernel, rfl⟩
theorem dMod_wouldTake_2 : uB prog_11_method_46_code 2 (.ifCond .eq) 5 9 := ⟨7, by decide +kernel, rfl, by decide⟩
theorem dMod_wouldTake_5 : uD prog_11_method_46_code 5 (.iconst 0) 1 6 := ⟨by decide +kernel, rfl⟩
theorem dMod_wouldTake_6 : uB prog_11_method_46_code 6 .goto 9 16 := ⟨10, by decide +kernel, rfl, by decide⟩
theorem dMod_wouldTake_9 : uD prog_11_method_46_code 9 (.aload_n 0) 1 10 := ⟨by decide +kernel, rfl⟩
theorem dMod_wouldTake_10 : uD prog_11_method_46_code 10 (.getfield 7) 3 13 := ⟨by decide +kernel, rfl⟩
theorem dMod_wouldTake_13 : uD prog_11_method_46_code 13 (.bipush 6) 2 15 := ⟨by decide +kernel, rfl⟩
theorem dMod_wouldTake_15 : uD prog_11_method_46_code 15 (.iaload) 1 16 := ⟨by decide +kernel, rfl⟩
theorem dMod_wouldTake_16 : uD prog_11_method_46_code 16 (.invokevirtual 197) 3 19 := ⟨by decide +kernel, rfl⟩
theorem dMod_wouldTake_19 : uD prog_11_method_46_code 19 (.aload_n 0) 1 20 := ⟨by decide +kernel, rfl⟩
theorem dMod_wouldTake_20 : uD prog_11_method_46_code 20 (.invokevirtual 194) 3 23 := ⟨by decide +kernel, rfl⟩
theorem dMod_wouldTake_23 : uD prog_11_method_46_code 23 (.aload_n 0) 1 24 := ⟨by decide +kernel, rfl⟩
theorem dMod_wouldTake_24 : uD prog_11_method_46_code 24 (.invokevirtual 143) 3 27 := ⟨by decide +kernel, rfl⟩
theorem dMod_wouldTake_27 : uB prog_11_method_46_code 27 (.ifCond .ne) 30 38 := ⟨11, by decide +kernel, rfl, by decide⟩
theorem dMod_wouldTake_30 : uD prog_11_method_46_code 30 (.bipush (-100)) 2 32 := ⟨by decide +kernel, rfl⟩
theorem dMod_wouldTake_32 : uD prog_11_method_46_code 32 (.aload_n 0) 1 33 := ⟨by decide +kernel, rfl⟩
theorem dMod_wouldTake_33 : uD prog_11_method_46_code 33 (.getfield 79) 3 36 := ⟨by decide +kernel, rfl⟩
theorem dMod_wouldTake_36 : uD prog_11_method_46_code 36 (.isub) 1 37 := ⟨by decide +kernel, rfl⟩
theorem dMod_wouldTake_37 : uD prog_11_method_46_code 37 (.ireturn) 1 38 := ⟨by decide +kernel, rfl⟩
theorem dMod_wouldTake_38 : uD prog_11_method_46_code 38 (.aload_n 0) 1 39 := ⟨by decide +kernel, rfl⟩
theorem dMod_wouldTake_39 : uD prog_11_method_46_code 39 (.invokevirtual 171) 3 42 := ⟨by decide +kernel, rfl⟩
theorem dMod_wouldTake_42 : uD prog_11_method_46_code 42 (.aload_n 0) 1 43 := ⟨by decide +kernel, rfl⟩
theorem dMod_wouldTake_43 : uD prog_11_method_46_code 43 (.invokevirtual 180) 3 46 := ⟨by decide +kernel, rfl⟩
theorem dMod_wouldTake_46 : uD prog_11_method_46_code 46 (.ireturn) 1 47 := ⟨by decide +kernel, rfl⟩
theorem dMod_partsOfText_0 : uD prog_11_method_47_code 0 (.iconst 0) 1 1 := ⟨by decide +kernel, rfl⟩
theorem dMod_partsOfText_1 : uD prog_11_method_47_code 1 (.istore_n 1) 1 2 := ⟨by decide +kernel, rfl⟩
theorem dMod_partsOfText_2 : uD prog_11_method_47_code 2 (.iconst 0) 1 3 := ⟨by decide +kernel, rfl⟩
theorem dMod_partsOfText_3 : uD prog_11_method_47_code 3 (.istore_n 2) 1 4 := ⟨by decide +kernel, rfl⟩
theorem dMod_partsOfText_4 : uD prog_11_method_47_code 4 (.iconst 1) 1 5 := ⟨by decide +kernel, rfl⟩
theorem dMod_partsOfText_5 : uD prog_11_method_47_code 5 (.istore_n 3) 1 6 := ⟨by decide +kernel, rfl⟩
theorem dMod_partsOfText_6 : uD prog_11_method_47_code 6 (.iload_n 3) 1 7 := ⟨by decide +kernel, rfl⟩
theorem dMod_partsOfText_7 : uB prog_11_method_47_code 7 (.ifCond .eq) 10 158 := ⟨151, by decide +kernel, rfl, by decide⟩
theorem dMod_partsOfText_10 : uD prog_11_method_47_code 10 (.iload_n 1) 1 11 := ⟨by decide +kernel, rfl⟩
theorem dMod_partsOfText_11 : uD prog_11_method_47_code 11 (.aload_n 0) 1 12 := ⟨by decide +kernel, rfl⟩
theorem dMod_partsOfText_12 : uD prog_11_method_47_code 12 (.getfield 140) 3 15 := ⟨by decide +kernel, rfl⟩
theorem dMod_partsOfText_15 : uB prog_11_method_47_code 15 (.if_icmp .eq) 18 34 := ⟨19, by decide +kernel, rfl, by decide⟩
theorem dMod_partsOfText_18 : uD prog_11_method_47_code 18 (.aload_n 0) 1 19 := ⟨by decide +kernel, rfl⟩
theorem dMod_partsOfText_19 : uD prog_11_method_47_code 19 (.getfield 61) 3 22 := ⟨by decide +kernel, rfl⟩
theorem dMod_partsOfText_22 : uD prog_11_method_47_code 22 (.iload_n 1) 1 23 := ⟨by decide +kernel, rfl⟩
theorem dMod_partsOfText_23 : uD prog_11_method_47_code 23 (.caload) 1 24 := ⟨by decide +kernel, rfl⟩
theorem dMod_partsOfText_24 : uD prog_11_method_47_code 24 (.bipush 97) 2 26 := ⟨by decide +kernel, rfl⟩
theorem dMod_partsOfText_26 : uD prog_11_method_47_code 26 (.bipush 102) 2 28 := ⟨by decide +kernel, rfl⟩
theorem dMod_partsOfText_28 : uD prog_11_method_47_code 28 (.invokestatic 71) 3 31 := ⟨by decide +kernel, rfl⟩
theorem dMod_partsOfText_31 : uB prog_11_method_47_code 31 (.ifCond .ne) 34 39 := ⟨8, by decide +kernel, rfl, by decide⟩
theorem dMod_partsOfText_34 : uD prog_11_method_47_code 34 (.bipush (-100)) 2 36 := ⟨by decide +kernel, rfl⟩
theorem dMod_partsOfText_36 : uD prog_11_method_47_code 36 (.iload_n 1) 1 37 := ⟨by decide +kernel, rfl⟩
theorem dMod_partsOfText_37 : uD prog_11_method_47_code 37 (.isub) 1 38 := ⟨by decide +kernel, rfl⟩
theorem dMod_partsOfText_38 : uD prog_11_method_47_code 38 (.ireturn) 1 39 := ⟨by decide +kernel, rfl⟩
theorem dMod_partsOfText_39 : uD prog_11_method_47_code 39 (.aload_n 0) 1 40 := ⟨by decide +kernel, rfl⟩
theorem dMod_partsOfText_40 : uD prog_11_method_47_code 40 (.getfield 65) 3 43 := ⟨by decide +kernel, rfl⟩
theorem dMod_partsOfText_43 : uD prog_11_method_47_code 43 (.iload_n 2) 1 44 := ⟨by decide +kernel, rfl⟩
theorem dMod_partsOfText_44 : uD prog_11_method_47_code 44 (.aload_n 0) 1 45 := ⟨by decide +kernel, rfl⟩
theorem dMod_partsOfText_45 : uD prog_11_method_47_code 45 (.getfield 61) 3 48 := ⟨by decide +kernel, rfl⟩
theorem dMod_partsOfText_48 : uD prog_11_method_47_code 48 (.iload_n 1) 1 49 := ⟨by decide +kernel, rfl⟩
theorem dMod_partsOfText_49 : uD prog_11_method_47_code 49 (.caload) 1 50 := ⟨by decide +kernel, rfl⟩
theorem dMod_partsOfText_50 : uD prog_11_method_47_code 50 (.bipush 97) 2 52 := ⟨by decide +kernel, rfl⟩
theorem dMod_partsOfText_52 : uD prog_11_method_47_code 52 (.isub) 1 53 := ⟨by decide +kernel, rfl⟩
theorem dMod_partsOfText_53 : uD prog_11_method_47_code 53 (.iastore) 1 54 := ⟨by decide +kernel, rfl⟩
theorem dMod_partsOfText_54 : uD prog_11_method_47_code 54 (.iinc 1 1) 3 57 := ⟨by decide +kernel, rfl⟩
theorem dMod_partsOfText_57 : uD prog_11_method_47_code 57 (.aload_n 0) 1 58 := ⟨by decide +kernel, rfl⟩
theorem dMod_partsOfText_58 : uD prog_11_method_47_code 58 (.getfield 68) 3 61 := ⟨by decide +kernel, rfl⟩
theorem dMod_partsOfText_61 : uD prog_11_method_47_code 61 (.iload_n 2) 1 62 := ⟨by decide +kernel, rfl⟩
theorem dMod_partsOfText_62 : uD prog_11_method_47_code 62 (.iconst 1) 1 63 := ⟨by decide +kernel, rfl⟩
theorem dMod_partsOfText_63 : uD prog_11_method_47_code 63 (.iastore) 1 64 := ⟨by decide +kernel, rfl⟩
theorem dMod_partsOfText_64 : uD prog_11_method_47_code 64 (.iload_n 1) 1 65 := ⟨by decide +kernel, rfl⟩
theorem dMod_partsOfText_65 : uD prog_11_method_47_code 65 (.aload_n 0) 1 66 := ⟨by decide +kernel, rfl⟩
theorem dMod_partsOfText_66 : uD prog_11_method_47_code 66 (.getfield 140) 3 69 := ⟨by decide +kernel, rfl⟩
theorem dMod_partsOfText_69 : uB prog_11_method_47_code 69 (.if_icmp .ge) 72 106 := ⟨37, by decide +kernel, rfl, by decide⟩
theorem dMod_partsOfText_72 : uD prog_11_method_47_code 72 (.aload_n 0) 1 73 := ⟨by decide +kernel, rfl⟩
theorem dMod_partsOfText_73 : uD prog_11_method_47_code 73 (.getfield 61) 3 76 := ⟨by decide +kernel, rfl⟩
theorem dMod_partsOfText_76 : uD prog_11_method_47_code 76 (.iload_n 1) 1 77 := ⟨by decide +kernel, rfl⟩
theorem dMod_partsOfText_77 : uD prog_11_method_47_code 77 (.caload) 1 78 := ⟨by decide +kernel, rfl⟩
theorem dMod_partsOfText_78 : uD prog_11_method_47_code 78 (.bipush 49) 2 80 := ⟨by decide +kernel, rfl⟩
theorem dMod_partsOfText_80 : uD prog_11_method_47_code 80 (.bipush 57) 2 82 := ⟨by decide +kernel, rfl⟩
theorem dMod_partsOfText_82 : uD prog_11_method_47_code 82 (.invokestatic 71) 3 85 := ⟨by decide +kernel, rfl⟩
theorem dMod_partsOfText_85 : uB prog_11_method_47_code 85 (.ifCond .eq) 88 106 := ⟨21, by decide +kernel, rfl, by decide⟩
theorem dMod_partsOfText_88 : uD prog_11_method_47_code 88 (.aload_n 0) 1 89 := ⟨by decide +kernel, rfl⟩
theorem dMod_partsOfText_89 : uD prog_11_method_47_code 89 (.getfield 68) 3 92 := ⟨by decide +kernel, rfl⟩
theorem dMod_partsOfText_92 : uD prog_11_method_47_code 92 (.iload_n 2) 1 93 := ⟨by decide +kernel, rfl⟩
theorem dMod_partsOfText_93 : uD prog_11_method_47_code 93 (.aload_n 0) 1 94 := ⟨by decide +kernel, rfl⟩
theorem dMod_partsOfText_94 : uD prog_11_method_47_code 94 (.getfield 61) 3 97 := ⟨by decide +kernel, rfl⟩
theorem dMod_partsOfText_97 : uD prog_11_method_47_code 97 (.iload_n 1) 1 98 := ⟨by decide +kernel, rfl⟩
theorem dMod_partsOfText_98 : uD prog_11_method_47_code 98 (.caload) 1 99 := ⟨by decide +kernel, rfl⟩
theorem dMod_partsOfText_99 : uD prog_11_method_47_code 99 (.bipush 48) 2 101 := ⟨by decide +kernel, rfl⟩
theorem dMod_partsOfText_101 : uD prog_11_method_47_code 101 (.isub) 1 102 := ⟨by decide +kernel, rfl⟩
theorem dMod_partsOfText_102 : uD prog_11_method_47_code 102 (.iastore) 1 103 := ⟨by decide +kernel, rfl⟩
theorem dMod_partsOfText_103 : uD prog_11_method_47_code 103 (.iinc 1 1) 3 106 := ⟨by decide +kernel, rfl⟩
theorem dMod_partsOfText_106 : uD prog_11_method_47_code 106 (.iinc 2 1) 3 109 := ⟨by decide +kernel, rfl⟩
theorem dMod_partsOfText_109 : uD prog_11_method_47_code 109 (.iload_n 1) 1 110 := ⟨by decide +kernel, rfl⟩
theorem dMod_partsOfText_110 : uD prog_11_method_47_code 110 (.aload_n 0) 1 111 := ⟨by decide +kernel, rfl⟩
theorem dMod_partsOfText_111 : uD prog_11_method_47_code 111 (.getfield 140) 3 114 := ⟨by decide +kernel, rfl⟩
theorem dMod_partsOfText_114 : uB prog_11_method_47_code 114 (.if_icmp .ge) 117 121 := ⟨7, by decide +kernel, rfl, by decide⟩
theorem dMod_partsOfText_117 : uD prog_11_method_47_code 117 (.iconst 1) 1 118 := ⟨by decide +kernel, rfl⟩
theorem dMod_partsOfText_118 : uB prog_11_method_47_code 118 .goto 121 122 := ⟨4, by decide +kernel, rfl, by decide⟩
theorem dMod_partsOfText_121 : uD prog_11_method_47_code 121 (.iconst 0) 1 122 := ⟨by decide +kernel, rfl⟩
theorem dMod_partsOfText_122 : uD prog_11_method_47_code 122 (.istore_n 3) 1 123 := ⟨by decide +kernel, rfl⟩
theorem dMod_partsOfText_123 : uD prog_11_method_47_code 123 (.iload_n 3) 1 124 := ⟨by decide +kernel, rfl⟩
theorem dMod_partsOfText_124 : uB prog_11_method_47_code 124 (.ifCond .eq) 127 143 := ⟨19, by decide +kernel, rfl, by decide⟩
theorem dMod_partsOfText_127 : uD prog_11_method_47_code 127 (.aload_n 0) 1 128 := ⟨by decide +kernel, rfl⟩
theorem dMod_partsOfText_128 : uD prog_11_method_47_code 128 (.getfield 61) 3 131 := ⟨by decide +kernel, rfl⟩
theorem dMod_partsOfText_131 : uD prog_11_method_47_code 131 (.iload_n 1) 1 132 := ⟨by decide +kernel, rfl⟩
theorem dMod_partsOfText_132 : uD prog_11_method_47_code 132 (.caload) 1 133 := ⟨by decide +kernel, rfl⟩
theorem dMod_partsOfText_133 : uD prog_11_method_47_code 133 (.bipush 47) 2 135 := ⟨by decide +kernel, rfl⟩
theorem dMod_partsOfText_135 : uB prog_11_method_47_code 135 (.if_icmp .eq) 138 143 := ⟨8, by decide +kernel, rfl, by decide⟩
theorem dMod_partsOfText_138 : uD prog_11_method_47_code 138 (.bipush (-100)) 2 140 := ⟨by decide +kernel, rfl⟩
theorem dMod_partsOfText_140 : uD prog_11_method_47_code 140 (.iload_n 1) 1 141 := ⟨by decide +kernel, rfl⟩
theorem dMod_partsOfText_141 : uD prog_11_method_47_code 141 (.isub) 1 142 := ⟨by decide +kernel, rfl⟩
theorem dMod_partsOfText_142 : uD prog_11_method_47_code 142 (.ireturn) 1 143 := ⟨by decide +kernel, rfl⟩
theorem dMod_partsOfText_143 : uD prog_11_method_47_code 143 (.iload_n 1) 1 144 := ⟨by decide +kernel, rfl⟩
theorem dMod_partsOfText_144 : uD prog_11_method_47_code 144 (.iload_n 3) 1 145 := ⟨by decide +kernel, rfl⟩
theorem dMod_partsOfText_145 : uB prog_11_method_47_code 145 (.ifCond .eq) 148 152 := ⟨7, by decide +kernel, rfl, by decide⟩
theorem dMod_partsOfText_148 : uD prog_11_method_47_code 148 (.iconst 1) 1 149 := ⟨by decide +kernel, rfl⟩
theorem dMod_partsOfText_149 : uB prog_11_method_47_code 149 .goto 152 153 := ⟨4, by decide +kernel, rfl, by decide⟩
theorem dMod_partsOfText_152 : uD prog_11_method_47_code 152 (.iconst 0) 1 153 := ⟨by decide +kernel, rfl⟩
theorem dMod_partsOfText_153 : uD prog_11_method_47_code 153 (.iadd) 1 154 := ⟨by decide +kernel, rfl⟩
theorem dMod_partsOfText_154 : uD prog_11_method_47_code 154 (.istore_n 1) 1 155 := ⟨by decide +kernel, rfl⟩
theorem dMod_partsOfText_155 : uB prog_11_method_47_code 155 .goto 158 6 := ⟨-149, by decide +kernel, rfl, by decide⟩
theorem dMod_partsOfText_158 : uD prog_11_method_47_code 158 (.iload_n 2) 1 159 := ⟨by decide +kernel, rfl⟩
theorem dMod_partsOfText_159 : uD prog_11_method_47_code 159 (.ireturn) 1 160 := ⟨by decide +kernel, rfl⟩
theorem dMod_inner_0 : uD prog_11_method_48_code 0 (.iload_n 3) 1 1 := ⟨by decide +kernel, rfl⟩
theorem dMod_inner_1 : uD prog_11_method_48_code 1 (.istore 4) 2 3 := ⟨by decide +kernel, rfl⟩
theorem dMod_inner_3 : uD prog_11_method_48_code 3 (.iconst 0) 1 4 := ⟨by decide +kernel, rfl⟩
theorem dMod_inner_4 : uD prog_11_method_48_code 4 (.istore 5) 2 6 := ⟨by decide +kernel, rfl⟩
theorem dMod_inner_6 : uD prog_11_method_48_code 6 (.iload 5) 2 8 := ⟨by decide +kernel, rfl⟩
theorem dMod_inner_8 : uD prog_11_method_48_code 8 (.aload_n 0) 1 9 := ⟨by decide +kernel, rfl⟩
theorem dMod_inner_9 : uD prog_11_method_48_code 9 (.getfield 124) 3 12 := ⟨by decide +kernel, rfl⟩
theorem dMod_inner_12 : uB prog_11_method_48_code 12 (.if_icmp .ge) 15 61 := ⟨49, by decide +kernel, rfl, by decide⟩
theorem dMod_inner_15 : uD prog_11_method_48_code 15 (.iload 4) 2 17 := ⟨by decide +kernel, rfl⟩
theorem dMod_inner_17 : uD prog_11_method_48_code 17 (.aload_n 0) 1 18 := ⟨by decide +kernel, rfl⟩
theorem dMod_inner_18 : uD prog_11_method_48_code 18 (.iload 5) 2 20 := ⟨by decide +kernel, rfl⟩
theorem dMod_inner_20 : uD prog_11_method_48_code 20 (.iconst 2) 1 21 := ⟨by decide +kernel, rfl⟩
theorem dMod_inner_21 : uD prog_11_method_48_code 21 (.invokevirtual 97) 3 24 := ⟨by decide +kernel, rfl⟩
theorem dMod_inner_24 : uD prog_11_method_48_code 24 (.iload_n 1) 1 25 := ⟨by decide +kernel, rfl⟩
theorem dMod_inner_25 : uB prog_11_method_48_code 25 (.if_icmp .ne) 28 43 := ⟨18, by decide +kernel, rfl, by decide⟩
theorem dMod_inner_28 : uD prog_11_method_48_code 28 (.aload_n 0) 1 29 := ⟨by decide +kernel, rfl⟩
theorem dMod_inner_29 : uD prog_11_method_48_code 29 (.iload 5) 2 31 := ⟨by decide +kernel, rfl⟩
theorem dMod_inner_31 : uD prog_11_method_48_code 31 (.iconst 0) 1 32 := ⟨by decide +kernel, rfl⟩
theorem dMod_inner_32 : uD prog_11_method_48_code 32 (.invokevirtual 97) 3 35 := ⟨by decide +kernel, rfl⟩
theorem dMod_inner_35 : uD prog_11_method_48_code 35 (.iload_n 2) 1 36 := ⟨by decide +kernel, rfl⟩
theorem dMod_inner_36 : uB prog_11_method_48_code 36 (.if_icmp .ne) 39 43 := ⟨7, by decide +kernel, rfl, by decide⟩
theorem dMod_inner_39 : uD prog_11_method_48_code 39 (.iconst 1) 1 40 := ⟨by decide +kernel, rfl⟩
theorem dMod_inner_40 : uB prog_11_method_48_code 40 .goto 43 44 := ⟨4, by decide +kernel, rfl, by decide⟩
theorem dMod_inner_43 : uD prog_11_method_48_code 43 (.iconst 0) 1 44 := ⟨by decide +kernel, rfl⟩
theorem dMod_inner_44 : uD prog_11_method_48_code 44 (.isub) 1 45 := ⟨by decide +kernel, rfl⟩
theorem dMod_inner_45 : uD prog_11_method_48_code 45 (.istore 4) 2 47 := ⟨by decide +kernel, rfl⟩
theorem dMod_inner_47 : uD prog_11_method_48_code 47 (.iload 4) 2 49 := ⟨by decide +kernel, rfl⟩
theorem dMod_inner_49 : uB prog_11_method_48_code 49 (.ifCond .ne) 52 55 := ⟨6, by decide +kernel, rfl, by decide⟩
theorem dMod_inner_52 : uD prog_11_method_48_code 52 (.iload 5) 2 54 := ⟨by decide +kernel, rfl⟩
theorem dMod_inner_54 : uD prog_11_method_48_code 54 (.ireturn) 1 55 := ⟨by decide +kernel, rfl⟩
theorem dMod_inner_55 : uD prog_11_method_48_code 55 (.iinc 5 1) 3 58 := ⟨by decide +kernel, rfl⟩
theorem dMod_inner_58 : uB prog_11_method_48_code 58 .goto 61 6 := ⟨-52, by decide +kernel, rfl, by decide⟩
theorem dMod_inner_61 : uD prog_11_method_48_code 61 (.iconst (-1)) 1 62 := ⟨by decide +kernel, rfl⟩
theorem dMod_inner_62 : uD prog_11_method_48_code 62 (.ireturn) 1 63 := ⟨by decide +kernel, rfl⟩
theorem dMod_path_0 : uD prog_11_method_49_code 0 (.aload_n 0) 1 1 := ⟨by decide +kernel, rfl⟩
theorem dMod_path_1 : uD prog_11_method_49_code 1 (.iload_n 1) 1 2 := ⟨by decide +kernel, rfl⟩
theorem dMod_path_2 : uD prog_11_method_49_code 2 (.invokevirtual 200) 3 5 := ⟨by decide +kernel, rfl⟩
theorem dMod_path_5 : uB prog_11_method_49_code 5 (.ifCond .eq) 8 10 := ⟨5, by decide +kernel, rfl, by decide⟩
theorem dMod_path_8 : uD prog_11_method_49_code 8 (.iconst (-1)) 1 9 := ⟨by decide +kernel, rfl⟩
theorem dMod_path_9 : uD prog_11_method_49_code 9 (.ireturn) 1 10 := ⟨by decide +kernel, rfl⟩
theorem dMod_path_10 : uD prog_11_method_49_code 10 (.iload_n 2) 1 11 := ⟨by decide +kernel, rfl⟩
theorem dMod_path_11 : uD prog_11_method_49_code 11 (.iconst 0) 1 12 := ⟨by decide +kernel, rfl⟩
theorem dMod_path_12 : uD prog_11_method_49_code 12 (.iconst 5) 1 13 := ⟨by decide +kernel, rfl⟩
theorem dMod_path_13 : uD prog_11_method_49_code 13 (.invokestatic 71) 3 16 := ⟨by decide +kernel, rfl⟩
theorem dMod_path_16 : uB prog_11_method_49_code 16 (.ifCond .ne) 19 22 := ⟨6, by decide +kernel, rfl, by decide⟩
theorem dMod_path_19 : uD prog_11_method_49_code 19 (.bipush (-2)) 2 21 := ⟨by decide +kernel, rfl⟩
theorem dMod_path_21 : uD prog_11_method_49_code 21 (.ireturn) 1 22 := ⟨by decide +kernel, rfl⟩
theorem dMod_path_22 : uD prog_11_method_49_code 22 (.aload_n 0) 1 23 := ⟨by decide +kernel, rfl⟩
theorem dMod_path_23 : uD prog_11_method_49_code 23 (.invokevirtual 210) 3 26 := ⟨by decide +kernel, rfl⟩
theorem dMod_path_26 : uD prog_11_method_49_code 26 (.istore_n 3) 1 27 := ⟨by decide +kernel, rfl⟩
theorem dMod_path_27 : uD prog_11_method_49_code 27 (.iload_n 3) 1 28 := ⟨by decide +kernel, rfl⟩
theorem dMod_path_28 : uB prog_11_method_49_code 28 (.ifCond .ge) 31 33 := ⟨5, by decide +kernel, rfl, by decide⟩
theorem dMod_path_31 : uD prog_11_method_49_code 31 (.iload_n 3) 1 32 := ⟨by decide +kernel, rfl⟩
theorem dMod_path_32 : uD prog_11_method_49_code 32 (.ireturn) 1 33 := ⟨by decide +kernel, rfl⟩
theorem dMod_path_33 : uD prog_11_method_49_code 33 (.aload_n 0) 1 34 := ⟨by decide +kernel, rfl⟩
theorem dMod_path_34 : uD prog_11_method_49_code 34 (.iload_n 1) 1 35 := ⟨by decide +kernel, rfl⟩
theorem dMod_path_35 : uD prog_11_method_49_code 35 (.invokevirtual 168) 3 38 := ⟨by decide +kernel, rfl⟩
theorem dMod_path_38 : uD prog_11_method_49_code 38 (.bipush (-5)) 2 40 := ⟨by decide +kernel, rfl⟩
theorem dMod_path_40 : uD prog_11_method_49_code 40 (.istore 4) 2 42 := ⟨by decide +kernel, rfl⟩
theorem dMod_path_42 : uD prog_11_method_49_code 42 (.iconst 0) 1 43 := ⟨by decide +kernel, rfl⟩
theorem dMod_path_43 : uD prog_11_method_49_code 43 (.istore 5) 2 45 := ⟨by decide +kernel, rfl⟩
theorem dMod_path_45 : uD prog_11_method_49_code 45 (.iload 5) 2 47 := ⟨by decide +kernel, rfl⟩
theorem dMod_path_47 : uD prog_11_method_49_code 47 (.iload_n 3) 1 48 := ⟨by decide +kernel, rfl⟩
theorem dMod_path_48 : uB prog_11_method_49_code 48 (.if_icmp .ge) 51 87 := ⟨39, by decide +kernel, rfl, by decide⟩
theorem dMod_path_51 : uD prog_11_method_49_code 51 (.aload_n 0) 1 52 := ⟨by decide +kernel, rfl⟩
theorem dMod_path_52 : uD prog_11_method_49_code 52 (.iload 4) 2 54 := ⟨by decide +kernel, rfl⟩
theorem dMod_path_54 : uD prog_11_method_49_code 54 (.aload_n 0) 1 55 := ⟨by decide +kernel, rfl⟩
theorem dMod_path_55 : uD prog_11_method_49_code 55 (.getfield 65) 3 58 := ⟨by decide +kernel, rfl⟩
theorem dMod_path_58 : uD prog_11_method_49_code 58 (.iload 5) 2 60 := ⟨by decide +kernel, rfl⟩
theorem dMod_path_60 : uD prog_11_method_49_code 60 (.iaload) 1 61 := ⟨by decide +kernel, rfl⟩
theorem dMod_path_61 : uD prog_11_method_49_code 61 (.aload_n 0) 1 62 := ⟨by decide +kernel, rfl⟩
theorem dMod_path_62 : uD prog_11_method_49_code 62 (.getfield 68) 3 65 := ⟨by decide +kernel, rfl⟩
theorem dMod_path_65 : uD prog_11_method_49_code 65 (.iload 5) 2 67 := ⟨by decide +kernel, rfl⟩
theorem dMod_path_67 : uD prog_11_method_49_code 67 (.iaload) 1 68 := ⟨by decide +kernel, rfl⟩
theorem dMod_path_68 : uD prog_11_method_49_code 68 (.invokevirtual 213) 3 71 := ⟨by decide +kernel, rfl⟩
theorem dMod_path_71 : uD prog_11_method_49_code 71 (.istore 4) 2 73 := ⟨by decide +kernel, rfl⟩
theorem dMod_path_73 : uD prog_11_method_49_code 73 (.iload 4) 2 75 := ⟨by decide +kernel, rfl⟩
theorem dMod_path_75 : uB prog_11_method_49_code 75 (.ifCond .ge) 78 81 := ⟨6, by decide +kernel, rfl, by decide⟩
theorem dMod_path_78 : uD prog_11_method_49_code 78 (.bipush (-5)) 2 80 := ⟨by decide +kernel, rfl⟩
theorem dMod_path_80 : uD prog_11_method_49_code 80 (.ireturn) 1 81 := ⟨by decide +kernel, rfl⟩
theorem dMod_path_81 : uD prog_11_method_49_code 81 (.iinc 5 1) 3 84 := ⟨by decide +kernel, rfl⟩
theorem dMod_path_84 : uB prog_11_method_49_code 84 .goto 87 45 := ⟨-39, by decide +kernel, rfl, by decide⟩
theorem dMod_path_87 : uD prog_11_method_49_code 87 (.iload_n 2) 1 88 := ⟨by decide +kernel, rfl⟩
theorem dMod_path_88 : uB prog_11_method_49_code 88 (.ifCond .ne) 91 101 := ⟨13, by decide +kernel, rfl, by decide⟩
theorem dMod_path_91 : uD prog_11_method_49_code 91 (.aload_n 0) 1 92 := ⟨by decide +kernel, rfl⟩
theorem dMod_path_92 : uD prog_11_method_49_code 92 (.iload 4) 2 94 := ⟨by decide +kernel, rfl⟩
theorem dMod_path_94 : uD prog_11_method_49_code 94 (.iconst 1) 1 95 := ⟨by decide +kernel, rfl⟩
theorem dMod_path_95 : uD prog_11_method_49_code 95 (.invokevirtual 97) 3 98 := ⟨by decide +kernel, rfl⟩
theorem dMod_path_98 : uB prog_11_method_49_code 98 .goto 101 171 := ⟨73, by decide +kernel, rfl, by decide⟩
theorem dMod_path_101 : uD prog_11_method_49_code 101 (.iload_n 2) 1 102 := ⟨by decide +kernel, rfl⟩
theorem dMod_path_102 : uD prog_11_method_49_code 102 (.iconst 1) 1 103 := ⟨by decide +kernel, rfl⟩
theorem dMod_path_103 : uB prog_11_method_49_code 103 (.if_icmp .ne) 106 116 := ⟨13, by decide +kernel, rfl, by decide⟩
theorem dMod_path_106 : uD prog_11_method_49_code 106 (.aload_n 0) 1 107 := ⟨by decide +kernel, rfl⟩
theorem dMod_path_107 : uD prog_11_method_49_code 107 (.iload 4) 2 109 := ⟨by decide +kernel, rfl⟩
theorem dMod_path_109 : uD prog_11_method_49_code 109 (.iconst 5) 1 110 := ⟨by decide +kernel, rfl⟩
theorem dMod_path_110 : uD prog_11_method_49_code 110 (.invokevirtual 97) 3 113 := ⟨by decide +kernel, rfl⟩
theorem dMod_path_113 : uB prog_11_method_49_code 113 .goto 116 171 := ⟨58, by decide +kernel, rfl, by decide⟩
theorem dMod_path_116 : uD prog_11_method_49_code 116 (.iload_n 2) 1 117 := ⟨by decide +kernel, rfl⟩
theorem dMod_path_117 : uD prog_11_method_49_code 117 (.iconst 2) 1 118 := ⟨by decide +kernel, rfl⟩
theorem dMod_path_118 : uB prog_11_method_49_code 118 (.if_icmp .ne) 121 132 := ⟨14, by decide +kernel, rfl, by decide⟩
theorem dMod_path_121 : uD prog_11_method_49_code 121 (.aload_n 0) 1 122 := ⟨by decide +kernel, rfl⟩
theorem dMod_path_122 : uD prog_11_method_49_code 122 (.iload 4) 2 124 := ⟨by decide +kernel, rfl⟩
theorem dMod_path_124 : uD prog_11_method_49_code 124 (.bipush 6) 2 126 := ⟨by decide +kernel, rfl⟩
theorem dMod_path_126 : uD prog_11_method_49_code 126 (.invokevirtual 97) 3 129 := ⟨by decide +kernel, rfl⟩
theorem dMod_path_129 : uB prog_11_method_49_code 129 .goto 132 171 := ⟨42, by decide +kernel, rfl, by decide⟩
theorem dMod_path_132 : uD prog_11_method_49_code 132 (.iload_n 2) 1 133 := ⟨by decide +kernel, rfl⟩
theorem dMod_path_133 : uD prog_11_method_49_code 133 (.iconst 3) 1 134 := ⟨by decide +kernel, rfl⟩
theorem dMod_path_134 : uB prog_11_method_49_code 134 (.if_icmp .ne) 137 147 := ⟨13, by decide +kernel, rfl, by decide⟩
theorem dMod_path_137 : uD prog_11_method_49_code 137 (.aload_n 0) 1 138 := ⟨by decide +kernel, rfl⟩
theorem dMod_path_138 : uD prog_11_method_49_code 138 (.iload 4) 2 140 := ⟨by decide +kernel, rfl⟩
theorem dMod_path_140 : uD prog_11_method_49_code 140 (.iconst 3) 1 141 := ⟨by decide +kernel, rfl⟩
theorem dMod_path_141 : uD prog_11_method_49_code 141 (.invokevirtual 97) 3 144 := ⟨by decide +kernel, rfl⟩
theorem dMod_path_144 : uB prog_11_method_49_code 144 .goto 147 171 := ⟨27, by decide +kernel, rfl, by decide⟩
theorem dMod_path_147 : uD prog_11_method_49_code 147 (.iload_n 2) 1 148 := ⟨by decide +kernel, rfl⟩
theorem dMod_path_148 : uD prog_11_method_49_code 148 (.iconst 4) 1 149 := ⟨by decide +kernel, rfl⟩
theorem dMod_path_149 : uB prog_11_method_49_code 149 (.if_icmp .ne) 152 163 := ⟨14, by decide +kernel, rfl, by decide⟩
theorem dMod_path_152 : uD prog_11_method_49_code 152 (.aload_n 0) 1 153 := ⟨by decide +kernel, rfl⟩
theorem dMod_path_153 : uD prog_11_method_49_code 153 (.iload 4) 2 155 := ⟨by decide +kernel, rfl⟩
theorem dMod_path_155 : uD prog_11_method_49_code 155 (.bipush 7) 2 157 := ⟨by decide +kernel, rfl⟩
theorem dMod_path_157 : uD prog_11_method_49_code 157 (.invokevirtual 97) 3 160 := ⟨by decide +kernel, rfl⟩
theorem dMod_path_160 : uB prog_11_method_49_code 160 .goto 163 171 := ⟨11, by decide +kernel, rfl, by decide⟩
theorem dMod_path_163 : uD prog_11_method_49_code 163 (.aload_n 0) 1 164 := ⟨by decide +kernel, rfl⟩
theorem dMod_path_164 : uD prog_11_method_49_code 164 (.iload 4) 2 166 := ⟨by decide +kernel, rfl⟩
theorem dMod_path_166 : uD prog_11_method_49_code 166 (.bipush 8) 2 168 := ⟨by decide +kernel, rfl⟩
theorem dMod_path_168 : uD prog_11_method_49_code 168 (.invokevirtual 97) 3 171 := ⟨by decide +kernel, rfl⟩
theorem dMod_path_171 : uD prog_11_method_49_code 171 (.ireturn) 1 172 := ⟨by decide +kernel, rfl⟩
theorem dMod_known_0 : uD prog_11_method_50_code 0 (.iload_n 1) 1 1 := ⟨by decide +kernel, rfl⟩
theorem dMod_known_1 : uD prog_11_method_50_code 1 (.iconst 0) 1 2 := ⟨by decide +kernel, rfl⟩
theorem dMod_known_2 : uD prog_11_method_50_code 2 (.bipush 6) 2 4 := ⟨by decide +kernel, rfl⟩
theorem dMod_known_4 : uD prog_11_method_50_code 4 (.invokestatic 71) 3 7 := ⟨by decide +kernel, rfl⟩
theorem dMod_known_7 : uB prog_11_method_50_code 7 (.ifCond .ne) 10 12 := ⟨5, by decide +kernel, rfl, by decide⟩
theorem dMod_known_10 : uD prog_11_method_50_code 10 (.iconst (-1)) 1 11 := ⟨by decide +kernel, rfl⟩
theorem dMod_known_11 : uD prog_11_method_50_code 11 (.ireturn) 1 12 := ⟨by decide +kernel, rfl⟩
theorem dMod_known_12 : uD prog_11_method_50_code 12 (.iload_n 2) 1 13 := ⟨by decide +kernel, rfl⟩
theorem dMod_known_13 : uB prog_11_method_50_code 13 (.ifCond .ge) 16 19 := ⟨6, by decide +kernel, rfl, by decide⟩
theorem dMod_known_16 : uD prog_11_method_50_code 16 (.bipush (-2)) 2 18 := ⟨by decide +kernel, rfl⟩
theorem dMod_known_18 : uD prog_11_method_50_code 18 (.ireturn) 1 19 := ⟨by decide +kernel, rfl⟩
theorem dMod_known_19 : uD prog_11_method_50_code 19 (.aload_n 0) 1 20 := ⟨by decide +kernel, rfl⟩
theorem dMod_known_20 : uD prog_11_method_50_code 20 (.aload_n 0) 1 21 := ⟨by decide +kernel, rfl⟩
theorem dMod_known_21 : uD prog_11_method_50_code 21 (.getfield 7) 3 24 := ⟨by decide +kernel, rfl⟩
theorem dMod_known_24 : uD prog_11_method_50_code 24 (.bipush 6) 2 26 := ⟨by decide +kernel, rfl⟩
theorem dMod_known_26 : uD prog_11_method_50_code 26 (.iaload) 1 27 := ⟨by decide +kernel, rfl⟩
theorem dMod_known_27 : uD prog_11_method_50_code 27 (.invokevirtual 197) 3 30 := ⟨by decide +kernel, rfl⟩
theorem dMod_known_30 : uD prog_11_method_50_code 30 (.iload_n 2) 1 31 := ⟨by decide +kernel, rfl⟩
theorem dMod_known_31 : uD prog_11_method_50_code 31 (.aload_n 0) 1 32 := ⟨by decide +kernel, rfl⟩
theorem dMod_known_32 : uD prog_11_method_50_code 32 (.getfield 43) 3 35 := ⟨by decide +kernel, rfl⟩
theorem dMod_known_35 : uD prog_11_method_50_code 35 (.iload_n 1) 1 36 := ⟨by decide +kernel, rfl⟩
theorem dMod_known_36 : uD prog_11_method_50_code 36 (.iaload) 1 37 := ⟨by decide +kernel, rfl⟩
theorem dMod_known_37 : uB prog_11_method_50_code 37 (.if_icmp .ge) 40 54 := ⟨17, by decide +kernel, rfl, by decide⟩
theorem dMod_known_40 : uD prog_11_method_50_code 40 (.aload_n 0) 1 41 := ⟨by decide +kernel, rfl⟩
theorem dMod_known_41 : uD prog_11_method_50_code 41 (.getfield 40) 3 44 := ⟨by decide +kernel, rfl⟩
theorem dMod_known_44 : uD prog_11_method_50_code 44 (.bipush 6) 2 46 := ⟨by decide +kernel, rfl⟩
theorem dMod_known_46 : uD prog_11_method_50_code 46 (.iload_n 1) 1 47 := ⟨by decide +kernel, rfl⟩
theorem dMod_known_47 : uD prog_11_method_50_code 47 (.imul) 1 48 := ⟨by decide +kernel, rfl⟩
theorem dMod_known_48 : uD prog_11_method_50_code 48 (.iload_n 2) 1 49 := ⟨by decide +kernel, rfl⟩
theorem dMod_known_49 : uD prog_11_method_50_code 49 (.iadd) 1 50 := ⟨by decide +kernel, rfl⟩
theorem dMod_known_50 : uD prog_11_method_50_code 50 (.iaload) 1 51 := ⟨by decide +kernel, rfl⟩
theorem dMod_known_51 : uB prog_11_method_50_code 51 .goto 54 56 := ⟨5, by decide +kernel, rfl, by decide⟩
theorem dMod_known_54 : uD prog_11_method_50_code 54 (.bipush (-5)) 2 56 := ⟨by decide +kernel, rfl⟩
theorem dMod_known_56 : uD prog_11_method_50_code 56 (.ireturn) 1 57 := ⟨by decide +kernel, rfl⟩
theorem dMod_latest_0 : uD prog_11_method_51_code 0 (.iload_n 1) 1 1 := ⟨by decide +kernel, rfl⟩
theorem dMod_latest_1 : uD prog_11_method_51_code 1 (.invokestatic 184) 3 4 := ⟨by decide +kernel, rfl⟩
theorem dMod_latest_4 : uB prog_11_method_51_code 4 (.ifCond .ne) 7 16 := ⟨12, by decide +kernel, rfl, by decide⟩
theorem dMod_latest_7 : uD prog_11_method_51_code 7 (.iload_n 2) 1 8 := ⟨by decide +kernel, rfl⟩
theorem dMod_latest_8 : uD prog_11_method_51_code 8 (.iconst 0) 1 9 := ⟨by decide +kernel, rfl⟩
theorem dMod_latest_9 : uD prog_11_method_51_code 9 (.iconst 3) 1 10 := ⟨by decide +kernel, rfl⟩
theorem dMod_latest_10 : uD prog_11_method_51_code 10 (.invokestatic 71) 3 13 := ⟨by decide +kernel, rfl⟩
theorem dMod_latest_13 : uB prog_11_method_51_code 13 (.ifCond .ne) 16 18 := ⟨5, by decide +kernel, rfl, by decide⟩
theorem dMod_latest_16 : uD prog_11_method_51_code 16 (.iconst (-1)) 1 17 := ⟨by decide +kernel, rfl⟩
theorem dMod_latest_17 : uD prog_11_method_51_code 17 (.ireturn) 1 18 := ⟨by decide +kernel, rfl⟩
theorem dMod_latest_18 : uD prog_11_method_51_code 18 (.aload_n 0) 1 19 := ⟨by decide +kernel, rfl⟩
theorem dMod_latest_19 : uD prog_11_method_51_code 19 (.aload_n 0) 1 20 := ⟨by decide +kernel, rfl⟩
theorem dMod_latest_20 : uD prog_11_method_51_code 20 (.getfield 7) 3 23 := ⟨by decide +kernel, rfl⟩
theorem dMod_latest_23 : uD prog_11_method_51_code 23 (.bipush 6) 2 25 := ⟨by decide +kernel, rfl⟩
theorem dMod_latest_25 : uD prog_11_method_51_code 25 (.iaload) 1 26 := ⟨by decide +kernel, rfl⟩
theorem dMod_latest_26 : uD prog_11_method_51_code 26 (.invokevirtual 197) 3 29 := ⟨by decide +kernel, rfl⟩
theorem dMod_latest_29 : uD prog_11_method_51_code 29 (.aload_n 0) 1 30 := ⟨by decide +kernel, rfl⟩
theorem dMod_latest_30 : uD prog_11_method_51_code 30 (.getfield 49) 3 33 := ⟨by decide +kernel, rfl⟩
theorem dMod_latest_33 : uD prog_11_method_51_code 33 (.iconst 4) 1 34 := ⟨by decide +kernel, rfl⟩
theorem dMod_latest_34 : uD prog_11_method_51_code 34 (.iload_n 1) 1 35 := ⟨by decide +kernel, rfl⟩
theorem dMod_latest_35 : uD prog_11_method_51_code 35 (.imul) 1 36 := ⟨by decide +kernel, rfl⟩
theorem dMod_latest_36 : uD prog_11_method_51_code 36 (.iload_n 2) 1 37 := ⟨by decide +kernel, rfl⟩
theorem dMod_latest_37 : uD prog_11_method_51_code 37 (.iadd) 1 38 := ⟨by decide +kernel, rfl⟩
theorem dMod_latest_38 : uD prog_11_method_51_code 38 (.iaload) 1 39 := ⟨by decide +kernel, rfl⟩
theorem dMod_latest_39 : uD prog_11_method_51_code 39 (.ireturn) 1 40 := ⟨by decide +kernel, rfl⟩
theorem dMod_overPages_0 : uD prog_11_method_52_code 0 (.iconst 0) 1 1 := ⟨by decide +kernel, rfl⟩
theorem dMod_overPages_1 : uD prog_11_method_52_code 1 (.istore_n 2) 1 2 := ⟨by decide +kernel, rfl⟩
theorem dMod_overPages_2 : uD prog_11_method_52_code 2 (.iconst 0) 1 3 := ⟨by decide +kernel, rfl⟩
theorem dMod_overPages_3 : uD prog_11_method_52_code 3 (.istore_n 3) 1 4 := ⟨by decide +kernel, rfl⟩
theorem dMod_overPages_4 : uD prog_11_method_52_code 4 (.iload_n 3) 1 5 := ⟨by decide +kernel, rfl⟩
theorem dMod_overPages_5 : uD prog_11_method_52_code 5 (.aload_n 0) 1 6 := ⟨by decide +kernel, rfl⟩
theorem dMod_overPages_6 : uD prog_11_method_52_code 6 (.getfield 7) 3 9 := ⟨by decide +kernel, rfl⟩
theorem dMod_overPages_9 : uD prog_11_method_52_code 9 (.bipush 6) 2 11 := ⟨by decide +kernel, rfl⟩
theorem dMod_overPages_11 : uD prog_11_method_52_code 11 (.iaload) 1 12 := ⟨by decide +kernel, rfl⟩
theorem dMod_overPages_12 : uB prog_11_method_52_code 12 (.if_icmp .ge) 15 56 := ⟨44, by decide +kernel, rfl, by decide⟩
theorem dMod_overPages_15 : uD prog_11_method_52_code 15 (.aload_n 0) 1 16 := ⟨by decide +kernel, rfl⟩
theorem dMod_overPages_16 : uD prog_11_method_52_code 16 (.iload_n 3) 1 17 := ⟨by decide +kernel, rfl⟩
theorem dMod_overPages_17 : uD prog_11_method_52_code 17 (.invokevirtual 168) 3 20 := ⟨by decide +kernel, rfl⟩
theorem dMod_overPages_20 : uD prog_11_method_52_code 20 (.iload_n 2) 1 21 := ⟨by decide +kernel, rfl⟩
theorem dMod_overPages_21 : uD prog_11_method_52_code 21 (.iload_n 1) 1 22 := ⟨by decide +kernel, rfl⟩
theorem dMod_overPages_22 : uB prog_11_method_52_code 22 (.ifCond .ne) 25 32 := ⟨10, by decide +kernel, rfl, by decide⟩
theorem dMod_overPages_25 : uD prog_11_method_52_code 25 (.aload_n 0) 1 26 := ⟨by decide +kernel, rfl⟩
theorem dMod_overPages_26 : uD prog_11_method_52_code 26 (.getfield 82) 3 29 := ⟨by decide +kernel, rfl⟩
theorem dMod_overPages_29 : uB prog_11_method_52_code 29 .goto 32 48 := ⟨19, by decide +kernel, rfl, by decide⟩
theorem dMod_overPages_32 : uD prog_11_method_52_code 32 (.iload_n 1) 1 33 := ⟨by decide +kernel, rfl⟩
theorem dMod_overPages_33 : uD prog_11_method_52_code 33 (.iconst 1) 1 34 := ⟨by decide +kernel, rfl⟩
theorem dMod_overPages_34 : uB prog_11_method_52_code 34 (.if_icmp .ne) 37 44 := ⟨10, by decide +kernel, rfl, by decide⟩
theorem dMod_overPages_37 : uD prog_11_method_52_code 37 (.aload_n 0) 1 38 := ⟨by decide +kernel, rfl⟩
theorem dMod_overPages_38 : uD prog_11_method_52_code 38 (.getfield 124) 3 41 := ⟨by decide +kernel, rfl⟩
theorem dMod_overPages_41 : uB prog_11_method_52_code 41 .goto 44 48 := ⟨7, by decide +kernel, rfl, by decide⟩
theorem dMod_overPages_44 : uD prog_11_method_52_code 44 (.aload_n 0) 1 45 := ⟨by decide +kernel, rfl⟩
theorem dMod_overPages_45 : uD prog_11_method_52_code 45 (.getfield 104) 3 48 := ⟨by decide +kernel, rfl⟩
theorem dMod_overPages_48 : uD prog_11_method_52_code 48 (.iadd) 1 49 := ⟨by decide +kernel, rfl⟩
theorem dMod_overPages_49 : uD prog_11_method_52_code 49 (.istore_n 2) 1 50 := ⟨by decide +kernel, rfl⟩
theorem dMod_overPages_50 : uD prog_11_method_52_code 50 (.iinc 3 1) 3 53 := ⟨by decide +kernel, rfl⟩
theorem dMod_overPages_53 : uB prog_11_method_52_code 53 .goto 56 4 := ⟨-49, by decide +kernel, rfl, by decide⟩
theorem dMod_overPages_56 : uD prog_11_method_52_code 56 (.iload_n 2) 1 57 := ⟨by decide +kernel, rfl⟩
theorem dMod_overPages_57 : uD prog_11_method_52_code 57 (.ireturn) 1 58 := ⟨by decide +kernel, rfl⟩
theorem dMod_count_0 : uD prog_11_method_53_code 0 (.iload_n 1) 1 1 := ⟨by decide +kernel, rfl⟩
theorem dMod_count_1 : decode prog_11_method_53_code 1 = .ok (.tableswitch 113 0 8 #[51, 59, 64, 69, 75, 91, 97, 103, 108], 51) := by decide +kernel
theorem dMod_count_52 : uD prog_11_method_53_code 52 (.aload_n 0) 1 53 := ⟨by decide +kernel, rfl⟩
theorem dMod_count_53 : uD prog_11_method_53_code 53 (.getfield 7) 3 56 := ⟨by decide +kernel, rfl⟩
theorem dMod_count_56 : uD prog_11_method_53_code 56 (.bipush 6) 2 58 := ⟨by decide +kernel, rfl⟩
theorem dMod_count_58 : uD prog_11_method_53_code 58 (.iaload) 1 59 := ⟨by decide +kernel, rfl⟩
theorem dMod_count_59 : uD prog_11_method_53_code 59 (.ireturn) 1 60 := ⟨by decide +kernel, rfl⟩
theorem dMod_count_60 : uD prog_11_method_53_code 60 (.aload_n 0) 1 61 := ⟨by decide +kernel, rfl⟩
theorem dMod_count_61 : uD prog_11_method_53_code 61 (.invokevirtual 191) 3 64 := ⟨by decide +kernel, rfl⟩
theorem dMod_count_64 : uD prog_11_method_53_code 64 (.ireturn) 1 65 := ⟨by decide +kernel, rfl⟩
theorem dMod_count_65 : uD prog_11_method_53_code 65 (.aload_n 0) 1 66 := ⟨by decide +kernel, rfl⟩
theorem dMod_count_66 : uD prog_11_method_53_code 66 (.invokevirtual 203) 3 69 := ⟨by decide +kernel, rfl⟩
theorem dMod_count_69 : uD prog_11_method_53_code 69 (.ireturn) 1 70 := ⟨by decide +kernel, rfl⟩
theorem dMod_count_70 : uD prog_11_method_53_code 70 (.aload_n 0) 1 71 := ⟨by decide +kernel, rfl⟩
theorem dMod_count_71 : uD prog_11_method_53_code 71 (.iconst 0) 1 72 := ⟨by decide +kernel, rfl⟩
theorem dMod_count_72 : uD prog_11_method_53_code 72 (.invokevirtual 216) 3 75 := ⟨by decide +kernel, rfl⟩
theorem dMod_count_75 : uD prog_11_method_53_code 75 (.ireturn) 1 76 := ⟨by decide +kernel, rfl⟩
theorem dMod_count_76 : uD prog_11_method_53_code 76 (.aload_n 0) 1 77 := ⟨by decide +kernel, rfl⟩
theorem dMod_count_77 : uD prog_11_method_53_code 77 (.aload_n 0) 1 78 := ⟨by decide +kernel, rfl⟩
theorem dMod_count_78 : uD prog_11_method_53_code 78 (.getfield 7) 3 81 := ⟨by decide +kernel, rfl⟩
theorem dMod_count_81 : uD prog_11_method_53_code 81 (.bipush 6) 2 83 := ⟨by decide +kernel, rfl⟩
theorem dMod_count_83 : uD prog_11_method_53_code 83 (.iaload) 1 84 := ⟨by decide +kernel, rfl⟩
theorem dMod_count_84 : uD prog_11_method_53_code 84 (.invokevirtual 197) 3 87 := ⟨by decide +kernel, rfl⟩
theorem dMod_count_87 : uD prog_11_method_53_code 87 (.aload_n 0) 1 88 := ⟨by decide +kernel, rfl⟩
theorem dMod_count_88 : uD prog_11_method_53_code 88 (.getfield 147) 3 91 := ⟨by decide +kernel, rfl⟩
theorem dMod_count_91 : uD prog_11_method_53_code 91 (.ireturn) 1 92 := ⟨by decide +kernel, rfl⟩
theorem dMod_count_92 : uD prog_11_method_53_code 92 (.aload_n 0) 1 93 := ⟨by decide +kernel, rfl⟩
theorem dMod_count_93 : uD prog_11_method_53_code 93 (.iconst 1) 1 94 := ⟨by decide +kernel, rfl⟩
theorem dMod_count_94 : uD prog_11_method_53_code 94 (.invokevirtual 216) 3 97 := ⟨by decide +kernel, rfl⟩
theorem dMod_count_97 : uD prog_11_method_53_code 97 (.ireturn) 1 98 := ⟨by decide +kernel, rfl⟩
theorem dMod_count_98 : uD prog_11_method_53_code 98 (.aload_n 0) 1 99 := ⟨by decide +kernel, rfl⟩
theorem dMod_count_99 : uD prog_11_method_53_code 99 (.iconst 2) 1 100 := ⟨by decide +kernel, rfl⟩
theorem dMod_count_100 : uD prog_11_method_53_code 100 (.invokevirtual 216) 3 103 := ⟨by decide +kernel, rfl⟩
theorem dMod_count_103 : uD prog_11_method_53_code 103 (.ireturn) 1 104 := ⟨by decide +kernel, rfl⟩
theorem dMod_count_104 : uD prog_11_method_53_code 104 (.aload_n 0) 1 105 := ⟨by decide +kernel, rfl⟩
theorem dMod_count_105 : uD prog_11_method_53_code 105 (.getfield 75) 3 108 := ⟨by decide +kernel, rfl⟩
theorem dMod_count_108 : uD prog_11_method_53_code 108 (.ireturn) 1 109 := ⟨by decide +kernel, rfl⟩
theorem dMod_count_109 : uD prog_11_method_53_code 109 (.aload_n 0) 1 110 := ⟨by decide +kernel, rfl⟩
theorem dMod_count_110 : uD prog_11_method_53_code 110 (.getfield 140) 3 113 := ⟨by decide +kernel, rfl⟩
theorem dMod_count_113 : uD prog_11_method_53_code 113 (.ireturn) 1 114 := ⟨by decide +kernel, rfl⟩
theorem dMod_count_114 : uD prog_11_method_53_code 114 (.bipush (-2)) 2 116 := ⟨by decide +kernel, rfl⟩
theorem dMod_count_116 : uD prog_11_method_53_code 116 (.ireturn) 1 117 := ⟨by decide +kernel, rfl⟩
end
section
/-! decode rows of the law -/
theorem dLaw_law_0 : uD code 0 (.new 7) 3 3 := ⟨by decide +kernel, rfl⟩
theorem dLaw_law_3 : uD code 3 (.dup) 1 4 := ⟨by decide +kernel, rfl⟩
theorem dLaw_law_4 : uD code 4 (.invokespecial 9) 3 7 := ⟨by decide +kernel, rfl⟩
theorem dLaw_law_7 : uD code 7 (.astore_n 1) 1 8 := ⟨by decide +kernel, rfl⟩
theorem dLaw_law_8 : uD code 8 (.new 10) 3 11 := ⟨by decide +kernel, rfl⟩
theorem dLaw_law_11 : uD code 11 (.dup) 1 12 := ⟨by decide +kernel, rfl⟩
theorem dLaw_law_12 : uD code 12 (.invokespecial 12) 3 15 := ⟨by decide +kernel, rfl⟩
theorem dLaw_law_15 : uD code 15 (.astore_n 2) 1 16 := ⟨by decide +kernel, rfl⟩
theorem dLaw_law_16 : uD code 16 (.iconst 0) 1 17 := ⟨by decide +kernel, rfl⟩
theorem dLaw_law_17 : uD code 17 (.istore_n 3) 1 18 := ⟨by decide +kernel, rfl⟩
theorem dLaw_law_18 : uD code 18 (.iload_n 3) 1 19 := ⟨by decide +kernel, rfl⟩
theorem dLaw_law_19 : uD code 19 (.aload_n 0) 1 20 := ⟨by decide +kernel, rfl⟩
theorem dLaw_law_20 : uD code 20 (.arraylength) 1 21 := ⟨by decide +kernel, rfl⟩
theorem dLaw_law_21 : uD code 21 (.iconst 4) 1 22 := ⟨by decide +kernel, rfl⟩
theorem dLaw_law_22 : uD code 22 (.isub) 1 23 := ⟨by decide +kernel, rfl⟩
theorem dLaw_law_23 : uB code 23 (.if_icmp .gt) 26 604 := ⟨581, by decide +kernel, rfl, by decide⟩
theorem dLaw_law_26 : uD code 26 (.aload_n 0) 1 27 := ⟨by decide +kernel, rfl⟩
theorem dLaw_law_27 : uD code 27 (.iload_n 3) 1 28 := ⟨by decide +kernel, rfl⟩
theorem dLaw_law_28 : uD code 28 (.iaload) 1 29 := ⟨by decide +kernel, rfl⟩
theorem dLaw_law_29 : uD code 29 (.bipush 31) 2 31 := ⟨by decide +kernel, rfl⟩
theorem dLaw_law_31 : uD code 31 (.iand) 1 32 := ⟨by decide +kernel, rfl⟩
theorem dLaw_law_32 : decode code 32 = .ok (.tableswitch 566 0 17 #[88, 147, 160, 173, 196, 221, 234, 257, 270, 283, 296, 329, 372, 405, 444, 477, 510, 543], 88) := by decide +kernel
theorem dLaw_law_120 : uD code 120 (.aload_n 1) 1 121 := ⟨by decide +kernel, rfl⟩
theorem dLaw_law_121 : uD code 121 (.aload_n 0) 1 122 := ⟨by decide +kernel, rfl⟩
theorem dLaw_law_122 : uD code 122 (.iload_n 3) 1 123 := ⟨by decide +kernel, rfl⟩
theorem dLaw_law_123 : uD code 123 (.iconst 1) 1 124 := ⟨by decide +kernel, rfl⟩
theorem dLaw_law_124 : uD code 124 (.iadd) 1 125 := ⟨by decide +kernel, rfl⟩
theorem dLaw_law_125 : uD code 125 (.iaload) 1 126 := ⟨by decide +kernel, rfl⟩
theorem dLaw_law_126 : uD code 126 (.aload_n 0) 1 127 := ⟨by decide +kernel, rfl⟩
theorem dLaw_law_127 : uD code 127 (.iload_n 3) 1 128 := ⟨by decide +kernel, rfl⟩
theorem dLaw_law_128 : uD code 128 (.iconst 2) 1 129 := ⟨by decide +kernel, rfl⟩
theorem dLaw_law_129 : uD code 129 (.iadd) 1 130 := ⟨by decide +kernel, rfl⟩
theorem dLaw_law_130 : uD code 130 (.iaload) 1 131 := ⟨by decide +kernel, rfl⟩
theorem dLaw_law_131 : uD code 131 (.aload_n 0) 1 132 := ⟨by decide +kernel, rfl⟩
theorem dLaw_law_132 : uD code 132 (.iload_n 3) 1 133 := ⟨by decide +kernel, rfl⟩
theorem dLaw_law_133 : uD code 133 (.iconst 3) 1 134 := ⟨by decide +kernel, rfl⟩
theorem dLaw_law_134 : uD code 134 (.iadd) 1 135 := ⟨by decide +kernel, rfl⟩
theorem dLaw_law_135 : uD code 135 (.iaload) 1 136 := ⟨by decide +kernel, rfl⟩
theorem dLaw_law_136 : uB code 136 (.ifCond .eq) 139 143 := ⟨7, by decide +kernel, rfl, by decide⟩
theorem dLaw_law_139 : uD code 139 (.iconst 1) 1 140 := ⟨by decide +kernel, rfl⟩
theorem dLaw_law_140 : uB code 140 .goto 143 144 := ⟨4, by decide +kernel, rfl, by decide⟩
theorem dLaw_law_143 : uD code 143 (.iconst 0) 1 144 := ⟨by decide +kernel, rfl⟩
theorem dLaw_law_144 : uD code 144 (.invokevirtual 13) 3 147 := ⟨by decide +kernel, rfl⟩
theorem dLaw_law_147 : uD code 147 (.aload_n 2) 1 148 := ⟨by decide +kernel, rfl⟩
theorem dLaw_law_148 : uD code 148 (.aload_n 0) 1 149 := ⟨by decide +kernel, rfl⟩
theorem dLaw_law_149 : uD code 149 (.iload_n 3) 1 150 := ⟨by decide +kernel, rfl⟩
theorem dLaw_law_150 : uD code 150 (.iconst 1) 1 151 := ⟨by decide +kernel, rfl⟩
theorem dLaw_law_151 : uD code 151 (.iadd) 1 152 := ⟨by decide +kernel, rfl⟩
theorem dLaw_law_152 : uD code 152 (.iaload) 1 153 := ⟨by decide +kernel, rfl⟩
theorem dLaw_law_153 : uD code 153 (.aload_n 0) 1 154 := ⟨by decide +kernel, rfl⟩
theorem dLaw_law_154 : uD code 154 (.iload_n 3) 1 155 := ⟨by decide +kernel, rfl⟩
theorem dLaw_law_155 : uD code 155 (.iconst 2) 1 156 := ⟨by decide +kernel, rfl⟩
theorem dLaw_law_156 : uD code 156 (.iadd) 1 157 := ⟨by decide +kernel, rfl⟩
theorem dLaw_law_157 : uD code 157 (.iaload) 1 158 := ⟨by decide +kernel, rfl⟩
theorem dLaw_law_158 : uD code 158 (.aload_n 0) 1 159 := ⟨by decide +kernel, rfl⟩
theorem dLaw_law_159 : uD code 159 (.iload_n 3) 1 160 := ⟨by decide +kernel, rfl⟩
theorem dLaw_law_160 : uD code 160 (.iconst 3) 1 161 := ⟨by decide +kernel, rfl⟩
theorem dLaw_law_161 : uD code 161 (.iadd) 1 162 := ⟨by decide +kernel, rfl⟩
theorem dLaw_law_162 : uD code 162 (.iaload) 1 163 := ⟨by decide +kernel, rfl⟩
theorem dLaw_law_163 : uB code 163 (.ifCond .eq) 166 170 := ⟨7, by decide +kernel, rfl, by decide⟩
theorem dLaw_law_166 : uD code 166 (.iconst 1) 1 167 := ⟨by decide +kernel, rfl⟩
theorem dLaw_law_167 : uB code 167 .goto 170 171 := ⟨4, by decide +kernel, rfl, by decide⟩
theorem dLaw_law_170 : uD code 170 (.iconst 0) 1 171 := ⟨by decide +kernel, rfl⟩
theorem dLaw_law_171 : uD code 171 (.invokevirtual 17) 3 174 := ⟨by decide +kernel, rfl⟩
theorem dLaw_law_174 : uB code 174 (.if_icmp .eq) 177 598 := ⟨424, by decide +kernel, rfl, by decide⟩
theorem dLaw_law_177 : uD code 177 (.iconst 0) 1 178 := ⟨by decide +kernel, rfl⟩
theorem dLaw_law_178 : uD code 178 (.ireturn) 1 179 := ⟨by decide +kernel, rfl⟩
theorem dLaw_law_179 : uD code 179 (.aload_n 1) 1 180 := ⟨by decide +kernel, rfl⟩
theorem dLaw_law_180 : uD code 180 (.invokevirtual 18) 3 183 := ⟨by decide +kernel, rfl⟩
theorem dLaw_law_183 : uD code 183 (.aload_n 2) 1 184 := ⟨by decide +kernel, rfl⟩
theorem dLaw_law_184 : uD code 184 (.invokevirtual 22) 3 187 := ⟨by decide +kernel, rfl⟩
theorem dLaw_law_187 : uB code 187 (.if_icmp .eq) 190 598 := ⟨411, by decide +kernel, rfl, by decide⟩
theorem dLaw_law_190 : uD code 190 (.iconst 0) 1 191 := ⟨by decide +kernel, rfl⟩
theorem dLaw_law_191 : uD code 191 (.ireturn) 1 192 := ⟨by decide +kernel, rfl⟩
theorem dLaw_law_192 : uD code 192 (.aload_n 1) 1 193 := ⟨by decide +kernel, rfl⟩
theorem dLaw_law_193 : uD code 193 (.invokevirtual 23) 3 196 := ⟨by decide +kernel, rfl⟩
theorem dLaw_law_196 : uD code 196 (.aload_n 2) 1 197 := ⟨by decide +kernel, rfl⟩
theorem dLaw_law_197 : uD code 197 (.invokevirtual 26) 3 200 := ⟨by decide +kernel, rfl⟩
theorem dLaw_law_200 : uB code 200 (.if_icmp .eq) 203 598 := ⟨398, by decide +kernel, rfl, by decide⟩
theorem dLaw_law_203 : uD code 203 (.iconst 0) 1 204 := ⟨by decide +kernel, rfl⟩
theorem dLaw_law_204 : uD code 204 (.ireturn) 1 205 := ⟨by decide +kernel, rfl⟩
theorem dLaw_law_205 : uD code 205 (.aload_n 1) 1 206 := ⟨by decide +kernel, rfl⟩
theorem dLaw_law_206 : uD code 206 (.aload_n 0) 1 207 := ⟨by decide +kernel, rfl⟩
theorem dLaw_law_207 : uD code 207 (.iload_n 3) 1 208 := ⟨by decide +kernel, rfl⟩
theorem dLaw_law_208 : uD code 208 (.iconst 1) 1 209 := ⟨by decide +kernel, rfl⟩
theorem dLaw_law_209 : uD code 209 (.iadd) 1 210 := ⟨by decide +kernel, rfl⟩
theorem dLaw_law_210 : uD code 210 (.iaload) 1 211 := ⟨by decide +kernel, rfl⟩
theorem dLaw_law_211 : uD code 211 (.invokevirtual 27) 3 214 := ⟨by decide +kernel, rfl⟩
theorem dLaw_law_214 : uD code 214 (.aload_n 2) 1 215 := ⟨by decide +kernel, rfl⟩
theorem dLaw_law_215 : uD code 215 (.aload_n 0) 1 216 := ⟨by decide +kernel, rfl⟩
theorem dLaw_law_216 : uD code 216 (.iload_n 3) 1 217 := ⟨by decide +kernel, rfl⟩
theorem dLaw_law_217 : uD code 217 (.iconst 1) 1 218 := ⟨by decide +kernel, rfl⟩
theorem dLaw_law_218 : uD code 218 (.iadd) 1 219 := ⟨by decide +kernel, rfl⟩
theorem dLaw_law_219 : uD code 219 (.iaload) 1 220 := ⟨by decide +kernel, rfl⟩
theorem dLaw_law_220 : uD code 220 (.invokevirtual 31) 3 223 := ⟨by decide +kernel, rfl⟩
theorem dLaw_law_223 : uB code 223 (.if_icmp .eq) 226 598 := ⟨375, by decide +kernel, rfl, by decide⟩
theorem dLaw_law_226 : uD code 226 (.iconst 0) 1 227 := ⟨by decide +kernel, rfl⟩
theorem dLaw_law_227 : uD code 227 (.ireturn) 1 228 := ⟨by decide +kernel, rfl⟩
theorem dLaw_law_228 : uD code 228 (.aload_n 1) 1 229 := ⟨by decide +kernel, rfl⟩
theorem dLaw_law_229 : uD code 229 (.aload_n 0) 1 230 := ⟨by decide +kernel, rfl⟩
theorem dLaw_law_230 : uD code 230 (.iload_n 3) 1 231 := ⟨by decide +kernel, rfl⟩
theorem dLaw_law_231 : uD code 231 (.iconst 1) 1 232 := ⟨by decide +kernel, rfl⟩
theorem dLaw_law_232 : uD code 232 (.iadd) 1 233 := ⟨by decide +kernel, rfl⟩
theorem dLaw_law_233 : uD code 233 (.iaload) 1 234 := ⟨by decide +kernel, rfl⟩
theorem dLaw_law_234 : uD code 234 (.i2c) 1 235 := ⟨by decide +kernel, rfl⟩
theorem dLaw_law_235 : uD code 235 (.invokevirtual 32) 3 238 := ⟨by decide +kernel, rfl⟩
theorem dLaw_law_238 : uD code 238 (.aload_n 2) 1 239 := ⟨by decide +kernel, rfl⟩
theorem dLaw_law_239 : uD code 239 (.aload_n 0) 1 240 := ⟨by decide +kernel, rfl⟩
theorem dLaw_law_240 : uD code 240 (.iload_n 3) 1 241 := ⟨by decide +kernel, rfl⟩
theorem dLaw_law_241 : uD code 241 (.iconst 1) 1 242 := ⟨by decide +kernel, rfl⟩
theorem dLaw_law_242 : uD code 242 (.iadd) 1 243 := ⟨by decide +kernel, rfl⟩
theorem dLaw_law_243 : uD code 243 (.iaload) 1 244 := ⟨by decide +kernel, rfl⟩
theorem dLaw_law_244 : uD code 244 (.i2c) 1 245 := ⟨by decide +kernel, rfl⟩
theorem dLaw_law_245 : uD code 245 (.invokevirtual 36) 3 248 := ⟨by decide +kernel, rfl⟩
theorem dLaw_law_248 : uB code 248 (.if_icmp .eq) 251 598 := ⟨350, by decide +kernel, rfl, by decide⟩
theorem dLaw_law_251 : uD code 251 (.iconst 0) 1 252 := ⟨by decide +kernel, rfl⟩
theorem dLaw_law_252 : uD code 252 (.ireturn) 1 253 := ⟨by decide +kernel, rfl⟩
theorem dLaw_law_253 : uD code 253 (.aload_n 1) 1 254 := ⟨by decide +kernel, rfl⟩
theorem dLaw_law_254 : uD code 254 (.invokevirtual 37) 3 257 := ⟨by decide +kernel, rfl⟩
theorem dLaw_law_257 : uD code 257 (.aload_n 2) 1 258 := ⟨by decide +kernel, rfl⟩
theorem dLaw_law_258 : uD code 258 (.invokevirtual 40) 3 261 := ⟨by decide +kernel, rfl⟩
theorem dLaw_law_261 : uB code 261 (.if_icmp .eq) 264 598 := ⟨337, by decide +kernel, rfl, by decide⟩
theorem dLaw_law_264 : uD code 264 (.iconst 0) 1 265 := ⟨by decide +kernel, rfl⟩
theorem dLaw_law_265 : uD code 265 (.ireturn) 1 266 := ⟨by decide +kernel, rfl⟩
theorem dLaw_law_266 : uD code 266 (.aload_n 1) 1 267 := ⟨by decide +kernel, rfl⟩
theorem dLaw_law_267 : uD code 267 (.aload_n 0) 1 268 := ⟨by decide +kernel, rfl⟩
theorem dLaw_law_268 : uD code 268 (.iload_n 3) 1 269 := ⟨by decide +kernel, rfl⟩
theorem dLaw_law_269 : uD code 269 (.iconst 1) 1 270 := ⟨by decide +kernel, rfl⟩
theorem dLaw_law_270 : uD code 270 (.iadd) 1 271 := ⟨by decide +kernel, rfl⟩
theorem dLaw_law_271 : uD code 271 (.iaload) 1 272 := ⟨by decide +kernel, rfl⟩
theorem dLaw_law_272 : uD code 272 (.invokevirtual 41) 3 275 := ⟨by decide +kernel, rfl⟩
theorem dLaw_law_275 : uD code 275 (.aload_n 2) 1 276 := ⟨by decide +kernel, rfl⟩
theorem dLaw_law_276 : uD code 276 (.aload_n 0) 1 277 := ⟨by decide +kernel, rfl⟩
theorem dLaw_law_277 : uD code 277 (.iload_n 3) 1 278 := ⟨by decide +kernel, rfl⟩
theorem dLaw_law_278 : uD code 278 (.iconst 1) 1 279 := ⟨by decide +kernel, rfl⟩
theorem dLaw_law_279 : uD code 279 (.iadd) 1 280 := ⟨by decide +kernel, rfl⟩
theorem dLaw_law_280 : uD code 280 (.iaload) 1 281 := ⟨by decide +kernel, rfl⟩
theorem dLaw_law_281 : uD code 281 (.invokevirtual 44) 3 284 := ⟨by decide +kernel, rfl⟩
theorem dLaw_law_284 : uB code 284 (.if_icmp .eq) 287 598 := ⟨314, by decide +kernel, rfl, by decide⟩
theorem dLaw_law_287 : uD code 287 (.iconst 0) 1 288 := ⟨by decide +kernel, rfl⟩
theorem dLaw_law_288 : uD code 288 (.ireturn) 1 289 := ⟨by decide +kernel, rfl⟩
theorem dLaw_law_289 : uD code 289 (.aload_n 1) 1 290 := ⟨by decide +kernel, rfl⟩
theorem dLaw_law_290 : uD code 290 (.invokevirtual 45) 3 293 := ⟨by decide +kernel, rfl⟩
theorem dLaw_law_293 : uD code 293 (.aload_n 2) 1 294 := ⟨by decide +kernel, rfl⟩
theorem dLaw_law_294 : uD code 294 (.invokevirtual 48) 3 297 := ⟨by decide +kernel, rfl⟩
theorem dLaw_law_297 : uB code 297 (.if_icmp .eq) 300 598 := ⟨301, by decide +kernel, rfl, by decide⟩
theorem dLaw_law_300 : uD code 300 (.iconst 0) 1 301 := ⟨by decide +kernel, rfl⟩
theorem dLaw_law_301 : uD code 301 (.ireturn) 1 302 := ⟨by decide +kernel, rfl⟩
theorem dLaw_law_302 : uD code 302 (.aload_n 1) 1 303 := ⟨by decide +kernel, rfl⟩
theorem dLaw_law_303 : uD code 303 (.invokevirtual 49) 3 306 := ⟨by decide +kernel, rfl⟩
theorem dLaw_law_306 : uD code 306 (.aload_n 2) 1 307 := ⟨by decide +kernel, rfl⟩
theorem dLaw_law_307 : uD code 307 (.invokevirtual 52) 3 310 := ⟨by decide +kernel, rfl⟩
theorem dLaw_law_310 : uB code 310 (.if_icmp .eq) 313 598 := ⟨288, by decide +kernel, rfl, by decide⟩
theorem dLaw_law_313 : uD code 313 (.iconst 0) 1 314 := ⟨by decide +kernel, rfl⟩
theorem dLaw_law_314 : uD code 314 (.ireturn) 1 315 := ⟨by decide +kernel, rfl⟩
theorem dLaw_law_315 : uD code 315 (.aload_n 1) 1 316 := ⟨by decide +kernel, rfl⟩
theorem dLaw_law_316 : uD code 316 (.invokevirtual 53) 3 319 := ⟨by decide +kernel, rfl⟩
theorem dLaw_law_319 : uD code 319 (.aload_n 2) 1 320 := ⟨by decide +kernel, rfl⟩
theorem dLaw_law_320 : uD code 320 (.invokevirtual 56) 3 323 := ⟨by decide +kernel, rfl⟩
theorem dLaw_law_323 : uB code 323 (.if_icmp .eq) 326 598 := ⟨275, by decide +kernel, rfl, by decide⟩
theorem dLaw_law_326 : uD code 326 (.iconst 0) 1 327 := ⟨by decide +kernel, rfl⟩
theorem dLaw_law_327 : uD code 327 (.ireturn) 1 328 := ⟨by decide +kernel, rfl⟩
theorem dLaw_law_328 : uD code 328 (.aload_n 1) 1 329 := ⟨by decide +kernel, rfl⟩
theorem dLaw_law_329 : uD code 329 (.aload_n 0) 1 330 := ⟨by decide +kernel, rfl⟩
theorem dLaw_law_330 : uD code 330 (.iload_n 3) 1 331 := ⟨by decide +kernel, rfl⟩
theorem dLaw_law_331 : uD code 331 (.iconst 1) 1 332 := ⟨by decide +kernel, rfl⟩
theorem dLaw_law_332 : uD code 332 (.iadd) 1 333 := ⟨by decide +kernel, rfl⟩
theorem dLaw_law_333 : uD code 333 (.iaload) 1 334 := ⟨by decide +kernel, rfl⟩
theorem dLaw_law_334 : uD code 334 (.aload_n 0) 1 335 := ⟨by decide +kernel, rfl⟩
theorem dLaw_law_335 : uD code 335 (.iload_n 3) 1 336 := ⟨by decide +kernel, rfl⟩
theorem dLaw_law_336 : uD code 336 (.iconst 2) 1 337 := ⟨by decide +kernel, rfl⟩
theorem dLaw_law_337 : uD code 337 (.iadd) 1 338 := ⟨by decide +kernel, rfl⟩
theorem dLaw_law_338 : uD code 338 (.iaload) 1 339 := ⟨by decide +kernel, rfl⟩
theorem dLaw_law_339 : uD code 339 (.invokevirtual 57) 3 342 := ⟨by decide +kernel, rfl⟩
theorem dLaw_law_342 : uD code 342 (.aload_n 2) 1 343 := ⟨by decide +kernel, rfl⟩
theorem dLaw_law_343 : uD code 343 (.aload_n 0) 1 344 := ⟨by decide +kernel, rfl⟩
theorem dLaw_law_344 : uD code 344 (.iload_n 3) 1 345 := ⟨by decide +kernel, rfl⟩
theorem dLaw_law_345 : uD code 345 (.iconst 1) 1 346 := ⟨by decide +kernel, rfl⟩
theorem dLaw_law_346 : uD code 346 (.iadd) 1 347 := ⟨by decide +kernel, rfl⟩
theorem dLaw_law_347 : uD code 347 (.iaload) 1 348 := ⟨by decide +kernel, rfl⟩
theorem dLaw_law_348 : uD code 348 (.aload_n 0) 1 349 := ⟨by decide +kernel, rfl⟩
theorem dLaw_law_349 : uD code 349 (.iload_n 3) 1 350 := ⟨by decide +kernel, rfl⟩
theorem dLaw_law_350 : uD code 350 (.iconst 2) 1 351 := ⟨by decide +kernel, rfl⟩
theorem dLaw_law_351 : uD code 351 (.iadd) 1 352 := ⟨by decide +kernel, rfl⟩
theorem dLaw_law_352 : uD code 352 (.iaload) 1 353 := ⟨by decide +kernel, rfl⟩
theorem dLaw_law_353 : uD code 353 (.invokevirtual 61) 3 356 := ⟨by decide +kernel, rfl⟩
theorem dLaw_law_356 : uB code 356 (.if_icmp .eq) 359 598 := ⟨242, by decide +kernel, rfl, by decide⟩
theorem dLaw_law_359 : uD code 359 (.iconst 0) 1 360 := ⟨by decide +kernel, rfl⟩
theorem dLaw_law_360 : uD code 360 (.ireturn) 1 361 := ⟨by decide +kernel, rfl⟩
theorem dLaw_law_361 : uD code 361 (.aload_n 1) 1 362 := ⟨by decide +kernel, rfl⟩
theorem dLaw_law_362 : uD code 362 (.aload_n 0) 1 363 := ⟨by decide +kernel, rfl⟩
theorem dLaw_law_363 : uD code 363 (.iload_n 3) 1 364 := ⟨by decide +kernel, rfl⟩
theorem dLaw_law_364 : uD code 364 (.iconst 1) 1 365 := ⟨by decide +kernel, rfl⟩
theorem dLaw_law_365 : uD code 365 (.iadd) 1 366 := ⟨by decide +kernel, rfl⟩
theorem dLaw_law_366 : uD code 366 (.iaload) 1 367 := ⟨by decide +kernel, rfl⟩
theorem dLaw_law_367 : uD code 367 (.aload_n 0) 1 368 := ⟨by decide +kernel, rfl⟩
theorem dLaw_law_368 : uD code 368 (.iload_n 3) 1 369 := ⟨by decide +kernel, rfl⟩
theorem dLaw_law_369 : uD code 369 (.iconst 2) 1 370 := ⟨by decide +kernel, rfl⟩
theorem dLaw_law_370 : uD code 370 (.iadd) 1 371 := ⟨by decide +kernel, rfl⟩
theorem dLaw_law_371 : uD code 371 (.iaload) 1 372 := ⟨by decide +kernel, rfl⟩
theorem dLaw_law_372 : uD code 372 (.aload_n 0) 1 373 := ⟨by decide +kernel, rfl⟩
theorem dLaw_law_373 : uD code 373 (.iload_n 3) 1 374 := ⟨by decide +kernel, rfl⟩
theorem dLaw_law_374 : uD code 374 (.iconst 3) 1 375 := ⟨by decide +kernel, rfl⟩
theorem dLaw_law_375 : uD code 375 (.iadd) 1 376 := ⟨by decide +kernel, rfl⟩
theorem dLaw_law_376 : uD code 376 (.iaload) 1 377 := ⟨by decide +kernel, rfl⟩
theorem dLaw_law_377 : uD code 377 (.invokevirtual 62) 3 380 := ⟨by decide +kernel, rfl⟩
theorem dLaw_law_380 : uD code 380 (.aload_n 2) 1 381 := ⟨by decide +kernel, rfl⟩
theorem dLaw_law_381 : uD code 381 (.aload_n 0) 1 382 := ⟨by decide +kernel, rfl⟩
theorem dLaw_law_382 : uD code 382 (.iload_n 3) 1 383 := ⟨by decide +kernel, rfl⟩
theorem dLaw_law_383 : uD code 383 (.iconst 1) 1 384 := ⟨by decide +kernel, rfl⟩
theorem dLaw_law_384 : uD code 384 (.iadd) 1 385 := ⟨by decide +kernel, rfl⟩
theorem dLaw_law_385 : uD code 385 (.iaload) 1 386 := ⟨by decide +kernel, rfl⟩
theorem dLaw_law_386 : uD code 386 (.aload_n 0) 1 387 := ⟨by decide +kernel, rfl⟩
theorem dLaw_law_387 : uD code 387 (.iload_n 3) 1 388 := ⟨by decide +kernel, rfl⟩
theorem dLaw_law_388 : uD code 388 (.iconst 2) 1 389 := ⟨by decide +kernel, rfl⟩
theorem dLaw_law_389 : uD code 389 (.iadd) 1 390 := ⟨by decide +kernel, rfl⟩
theorem dLaw_law_390 : uD code 390 (.iaload) 1 391 := ⟨by decide +kernel, rfl⟩
theorem dLaw_law_391 : uD code 391 (.aload_n 0) 1 392 := ⟨by decide +kernel, rfl⟩
theorem dLaw_law_392 : uD code 392 (.iload_n 3) 1 393 := ⟨by decide +kernel, rfl⟩
theorem dLaw_law_393 : uD code 393 (.iconst 3) 1 394 := ⟨by decide +kernel, rfl⟩
theorem dLaw_law_394 : uD code 394 (.iadd) 1 395 := ⟨by decide +kernel, rfl⟩
theorem dLaw_law_395 : uD code 395 (.iaload) 1 396 := ⟨by decide +kernel, rfl⟩
theorem dLaw_law_396 : uD code 396 (.invokevirtual 66) 3 399 := ⟨by decide +kernel, rfl⟩
theorem dLaw_law_399 : uB code 399 (.if_icmp .eq) 402 598 := ⟨199, by decide +kernel, rfl, by decide⟩
theorem dLaw_law_402 : uD code 402 (.iconst 0) 1 403 := ⟨by decide +kernel, rfl⟩
theorem dLaw_law_403 : uD code 403 (.ireturn) 1 404 := ⟨by decide +kernel, rfl⟩
theorem dLaw_law_404 : uD code 404 (.aload_n 1) 1 405 := ⟨by decide +kernel, rfl⟩
theorem dLaw_law_405 : uD code 405 (.aload_n 0) 1 406 := ⟨by decide +kernel, rfl⟩
theorem dLaw_law_406 : uD code 406 (.iload_n 3) 1 407 := ⟨by decide +kernel, rfl⟩
theorem dLaw_law_407 : uD code 407 (.iconst 1) 1 408 := ⟨by decide +kernel, rfl⟩
theorem dLaw_law_408 : uD code 408 (.iadd) 1 409 := ⟨by decide +kernel, rfl⟩
theorem dLaw_law_409 : uD code 409 (.iaload) 1 410 := ⟨by decide +kernel, rfl⟩
theorem dLaw_law_410 : uD code 410 (.aload_n 0) 1 411 := ⟨by decide +kernel, rfl⟩
theorem dLaw_law_411 : uD code 411 (.iload_n 3) 1 412 := ⟨by decide +kernel, rfl⟩
theorem dLaw_law_412 : uD code 412 (.iconst 2) 1 413 := ⟨by decide +kernel, rfl⟩
theorem dLaw_law_413 : uD code 413 (.iadd) 1 414 := ⟨by decide +kernel, rfl⟩
theorem dLaw_law_414 : uD code 414 (.iaload) 1 415 := ⟨by decide +kernel, rfl⟩
theorem dLaw_law_415 : uD code 415 (.invokevirtual 67) 3 418 := ⟨by decide +kernel, rfl⟩
theorem dLaw_law_418 : uD code 418 (.aload_n 2) 1 419 := ⟨by decide +kernel, rfl⟩
theorem dLaw_law_419 : uD code 419 (.aload_n 0) 1 420 := ⟨by decide +kernel, rfl⟩
theorem dLaw_law_420 : uD code 420 (.iload_n 3) 1 421 := ⟨by decide +kernel, rfl⟩
theorem dLaw_law_421 : uD code 421 (.iconst 1) 1 422 := ⟨by decide +kernel, rfl⟩
theorem dLaw_law_422 : uD code 422 (.iadd) 1 423 := ⟨by decide +kernel, rfl⟩
theorem dLaw_law_423 : uD code 423 (.iaload) 1 424 := ⟨by decide +kernel, rfl⟩
theorem dLaw_law_424 : uD code 424 (.aload_n 0) 1 425 := ⟨by decide +kernel, rfl⟩
theorem dLaw_law_425 : uD code 425 (.iload_n 3) 1 426 := ⟨by decide +kernel, rfl⟩
theorem dLaw_law_426 : uD code 426 (.iconst 2) 1 427 := ⟨by decide +kernel, rfl⟩
theorem dLaw_law_427 : uD code 427 (.iadd) 1 428 := ⟨by decide +kernel, rfl⟩
theorem dLaw_law_428 : uD code 428 (.iaload) 1 429 := ⟨by decide +kernel, rfl⟩
theorem dLaw_law_429 : uD code 429 (.invokevirtual 70) 3 432 := ⟨by decide +kernel, rfl⟩
theorem dLaw_law_432 : uB code 432 (.if_icmp .eq) 435 598 := ⟨166, by decide +kernel, rfl, by decide⟩
theorem dLaw_law_435 : uD code 435 (.iconst 0) 1 436 := ⟨by decide +kernel, rfl⟩
theorem dLaw_law_436 : uD code 436 (.ireturn) 1 437 := ⟨by decide +kernel, rfl⟩
theorem dLaw_law_437 : uD code 437 (.aload_n 1) 1 438 := ⟨by decide +kernel, rfl⟩
theorem dLaw_law_438 : uD code 438 (.aload_n 0) 1 439 := ⟨by decide +kernel, rfl⟩
theorem dLaw_law_439 : uD code 439 (.iload_n 3) 1 440 := ⟨by decide +kernel, rfl⟩
theorem dLaw_law_440 : uD code 440 (.iconst 1) 1 441 := ⟨by decide +kernel, rfl⟩
theorem dLaw_law_441 : uD code 441 (.iadd) 1 442 := ⟨by decide +kernel, rfl⟩
theorem dLaw_law_442 : uD code 442 (.iaload) 1 443 := ⟨by decide +kernel, rfl⟩
theorem dLaw_law_443 : uB code 443 (.ifCond .eq) 446 450 := ⟨7, by decide +kernel, rfl, by decide⟩
theorem dLaw_law_446 : uD code 446 (.iconst 1) 1 447 := ⟨by decide +kernel, rfl⟩
theorem dLaw_law_447 : uB code 447 .goto 450 451 := ⟨4, by decide +kernel, rfl, by decide⟩
theorem dLaw_law_450 : uD code 450 (.iconst 0) 1 451 := ⟨by decide +kernel, rfl⟩
theorem dLaw_law_451 : uD code 451 (.invokevirtual 71) 3 454 := ⟨by decide +kernel, rfl⟩
theorem dLaw_law_454 : uD code 454 (.aload_n 2) 1 455 := ⟨by decide +kernel, rfl⟩
theorem dLaw_law_455 : uD code 455 (.aload_n 0) 1 456 := ⟨by decide +kernel, rfl⟩
theorem dLaw_law_456 : uD code 456 (.iload_n 3) 1 457 := ⟨by decide +kernel, rfl⟩
theorem dLaw_law_457 : uD code 457 (.iconst 1) 1 458 := ⟨by decide +kernel, rfl⟩
theorem dLaw_law_458 : uD code 458 (.iadd) 1 459 := ⟨by decide +kernel, rfl⟩
theorem dLaw_law_459 : uD code 459 (.iaload) 1 460 := ⟨by decide +kernel, rfl⟩
theorem dLaw_law_460 : uB code 460 (.ifCond .eq) 463 467 := ⟨7, by decide +kernel, rfl, by decide⟩
theorem dLaw_law_463 : uD code 463 (.iconst 1) 1 464 := ⟨by decide +kernel, rfl⟩
theorem dLaw_law_464 : uB code 464 .goto 467 468 := ⟨4, by decide +kernel, rfl, by decide⟩
theorem dLaw_law_467 : uD code 467 (.iconst 0) 1 468 := ⟨by decide +kernel, rfl⟩
theorem dLaw_law_468 : uD code 468 (.invokevirtual 75) 3 471 := ⟨by decide +kernel, rfl⟩
theorem dLaw_law_471 : uB code 471 (.if_icmp .eq) 474 598 := ⟨127, by decide +kernel, rfl, by decide⟩
theorem dLaw_law_474 : uD code 474 (.iconst 0) 1 475 := ⟨by decide +kernel, rfl⟩
theorem dLaw_law_475 : uD code 475 (.ireturn) 1 476 := ⟨by decide +kernel, rfl⟩
theorem dLaw_law_476 : uD code 476 (.aload_n 1) 1 477 := ⟨by decide +kernel, rfl⟩
theorem dLaw_law_477 : uD code 477 (.aload_n 0) 1 478 := ⟨by decide +kernel, rfl⟩
theorem dLaw_law_478 : uD code 478 (.iload_n 3) 1 479 := ⟨by decide +kernel, rfl⟩
theorem dLaw_law_479 : uD code 479 (.iconst 1) 1 480 := ⟨by decide +kernel, rfl⟩
theorem dLaw_law_480 : uD code 480 (.iadd) 1 481 := ⟨by decide +kernel, rfl⟩
theorem dLaw_law_481 : uD code 481 (.iaload) 1 482 := ⟨by decide +kernel, rfl⟩
theorem dLaw_law_482 : uD code 482 (.aload_n 0) 1 483 := ⟨by decide +kernel, rfl⟩
theorem dLaw_law_483 : uD code 483 (.iload_n 3) 1 484 := ⟨by decide +kernel, rfl⟩
theorem dLaw_law_484 : uD code 484 (.iconst 2) 1 485 := ⟨by decide +kernel, rfl⟩
theorem dLaw_law_485 : uD code 485 (.iadd) 1 486 := ⟨by decide +kernel, rfl⟩
theorem dLaw_law_486 : uD code 486 (.iaload) 1 487 := ⟨by decide +kernel, rfl⟩
theorem dLaw_law_487 : uD code 487 (.invokevirtual 76) 3 490 := ⟨by decide +kernel, rfl⟩
theorem dLaw_law_490 : uD code 490 (.aload_n 2) 1 491 := ⟨by decide +kernel, rfl⟩
theorem dLaw_law_491 : uD code 491 (.aload_n 0) 1 492 := ⟨by decide +kernel, rfl⟩
theorem dLaw_law_492 : uD code 492 (.iload_n 3) 1 493 := ⟨by decide +kernel, rfl⟩
theorem dLaw_law_493 : uD code 493 (.iconst 1) 1 494 := ⟨by decide +kernel, rfl⟩
theorem dLaw_law_494 : uD code 494 (.iadd) 1 495 := ⟨by decide +kernel, rfl⟩
theorem dLaw_law_495 : uD code 495 (.iaload) 1 496 := ⟨by decide +kernel, rfl⟩
theorem dLaw_law_496 : uD code 496 (.aload_n 0) 1 497 := ⟨by decide +kernel, rfl⟩
theorem dLaw_law_497 : uD code 497 (.iload_n 3) 1 498 := ⟨by decide +kernel, rfl⟩
theorem dLaw_law_498 : uD code 498 (.iconst 2) 1 499 := ⟨by decide +kernel, rfl⟩
theorem dLaw_law_499 : uD code 499 (.iadd) 1 500 := ⟨by decide +kernel, rfl⟩
theorem dLaw_law_500 : uD code 500 (.iaload) 1 501 := ⟨by decide +kernel, rfl⟩
theorem dLaw_law_501 : uD code 501 (.invokevirtual 79) 3 504 := ⟨by decide +kernel, rfl⟩
theorem dLaw_law_504 : uB code 504 (.if_icmp .eq) 507 598 := ⟨94, by decide +kernel, rfl, by decide⟩
theorem dLaw_law_507 : uD code 507 (.iconst 0) 1 508 := ⟨by decide +kernel, rfl⟩
theorem dLaw_law_508 : uD code 508 (.ireturn) 1 509 := ⟨by decide +kernel, rfl⟩
theorem dLaw_law_509 : uD code 509 (.aload_n 1) 1 510 := ⟨by decide +kernel, rfl⟩
theorem dLaw_law_510 : uD code 510 (.aload_n 0) 1 511 := ⟨by decide +kernel, rfl⟩
theorem dLaw_law_511 : uD code 511 (.iload_n 3) 1 512 := ⟨by decide +kernel, rfl⟩
theorem dLaw_law_512 : uD code 512 (.iconst 1) 1 513 := ⟨by decide +kernel, rfl⟩
theorem dLaw_law_513 : uD code 513 (.iadd) 1 514 := ⟨by decide +kernel, rfl⟩
theorem dLaw_law_514 : uD code 514 (.iaload) 1 515 := ⟨by decide +kernel, rfl⟩
theorem dLaw_law_515 : uD code 515 (.aload_n 0) 1 516 := ⟨by decide +kernel, rfl⟩
theorem dLaw_law_516 : uD code 516 (.iload_n 3) 1 517 := ⟨by decide +kernel, rfl⟩
theorem dLaw_law_517 : uD code 517 (.iconst 2) 1 518 := ⟨by decide +kernel, rfl⟩
theorem dLaw_law_518 : uD code 518 (.iadd) 1 519 := ⟨by decide +kernel, rfl⟩
theorem dLaw_law_519 : uD code 519 (.iaload) 1 520 := ⟨by decide +kernel, rfl⟩
theorem dLaw_law_520 : uD code 520 (.invokevirtual 80) 3 523 := ⟨by decide +kernel, rfl⟩
theorem dLaw_law_523 : uD code 523 (.aload_n 2) 1 524 := ⟨by decide +kernel, rfl⟩
theorem dLaw_law_524 : uD code 524 (.aload_n 0) 1 525 := ⟨by decide +kernel, rfl⟩
theorem dLaw_law_525 : uD code 525 (.iload_n 3) 1 526 := ⟨by decide +kernel, rfl⟩
theorem dLaw_law_526 : uD code 526 (.iconst 1) 1 527 := ⟨by decide +kernel, rfl⟩
theorem dLaw_law_527 : uD code 527 (.iadd) 1 528 := ⟨by decide +kernel, rfl⟩
theorem dLaw_law_528 : uD code 528 (.iaload) 1 529 := ⟨by decide +kernel, rfl⟩
theorem dLaw_law_529 : uD code 529 (.aload_n 0) 1 530 := ⟨by decide +kernel, rfl⟩
theorem dLaw_law_530 : uD code 530 (.iload_n 3) 1 531 := ⟨by decide +kernel, rfl⟩
theorem dLaw_law_531 : uD code 531 (.iconst 2) 1 532 := ⟨by decide +kernel, rfl⟩
theorem dLaw_law_532 : uD code 532 (.iadd) 1 533 := ⟨by decide +kernel, rfl⟩
theorem dLaw_law_533 : uD code 533 (.iaload) 1 534 := ⟨by decide +kernel, rfl⟩
theorem dLaw_law_534 : uD code 534 (.invokevirtual 83) 3 537 := ⟨by decide +kernel, rfl⟩
theorem dLaw_law_537 : uB code 537 (.if_icmp .eq) 540 598 := ⟨61, by decide +kernel, rfl, by decide⟩
theorem dLaw_law_540 : uD code 540 (.iconst 0) 1 541 := ⟨by decide +kernel, rfl⟩
theorem dLaw_law_541 : uD code 541 (.ireturn) 1 542 := ⟨by decide +kernel, rfl⟩
theorem dLaw_law_542 : uD code 542 (.aload_n 1) 1 543 := ⟨by decide +kernel, rfl⟩
theorem dLaw_law_543 : uD code 543 (.aload_n 0) 1 544 := ⟨by decide +kernel, rfl⟩
theorem dLaw_law_544 : uD code 544 (.iload_n 3) 1 545 := ⟨by decide +kernel, rfl⟩
theorem dLaw_law_545 : uD code 545 (.iconst 1) 1 546 := ⟨by decide +kernel, rfl⟩
theorem dLaw_law_546 : uD code 546 (.iadd) 1 547 := ⟨by decide +kernel, rfl⟩
theorem dLaw_law_547 : uD code 547 (.iaload) 1 548 := ⟨by decide +kernel, rfl⟩
theorem dLaw_law_548 : uD code 548 (.aload_n 0) 1 549 := ⟨by decide +kernel, rfl⟩
theorem dLaw_law_549 : uD code 549 (.iload_n 3) 1 550 := ⟨by decide +kernel, rfl⟩
theorem dLaw_law_550 : uD code 550 (.iconst 2) 1 551 := ⟨by decide +kernel, rfl⟩
theorem dLaw_law_551 : uD code 551 (.iadd) 1 552 := ⟨by decide +kernel, rfl⟩
theorem dLaw_law_552 : uD code 552 (.iaload) 1 553 := ⟨by decide +kernel, rfl⟩
theorem dLaw_law_553 : uD code 553 (.invokevirtual 84) 3 556 := ⟨by decide +kernel, rfl⟩
theorem dLaw_law_556 : uD code 556 (.aload_n 2) 1 557 := ⟨by decide +kernel, rfl⟩
theorem dLaw_law_557 : uD code 557 (.aload_n 0) 1 558 := ⟨by decide +kernel, rfl⟩
theorem dLaw_law_558 : uD code 558 (.iload_n 3) 1 559 := ⟨by decide +kernel, rfl⟩
theorem dLaw_law_559 : uD code 559 (.iconst 1) 1 560 := ⟨by decide +kernel, rfl⟩
theorem dLaw_law_560 : uD code 560 (.iadd) 1 561 := ⟨by decide +kernel, rfl⟩
theorem dLaw_law_561 : uD code 561 (.iaload) 1 562 := ⟨by decide +kernel, rfl⟩
theorem dLaw_law_562 : uD code 562 (.aload_n 0) 1 563 := ⟨by decide +kernel, rfl⟩
theorem dLaw_law_563 : uD code 563 (.iload_n 3) 1 564 := ⟨by decide +kernel, rfl⟩
theorem dLaw_law_564 : uD code 564 (.iconst 2) 1 565 := ⟨by decide +kernel, rfl⟩
theorem dLaw_law_565 : uD code 565 (.iadd) 1 566 := ⟨by decide +kernel, rfl⟩
theorem dLaw_law_566 : uD code 566 (.iaload) 1 567 := ⟨by decide +kernel, rfl⟩
theorem dLaw_law_567 : uD code 567 (.invokevirtual 87) 3 570 := ⟨by decide +kernel, rfl⟩
theorem dLaw_law_570 : uB code 570 (.if_icmp .eq) 573 598 := ⟨28, by decide +kernel, rfl, by decide⟩
theorem dLaw_law_573 : uD code 573 (.iconst 0) 1 574 := ⟨by decide +kernel, rfl⟩
theorem dLaw_law_574 : uD code 574 (.ireturn) 1 575 := ⟨by decide +kernel, rfl⟩
theorem dLaw_law_575 : uD code 575 (.aload_n 1) 1 576 := ⟨by decide +kernel, rfl⟩
theorem dLaw_law_576 : uD code 576 (.aload_n 0) 1 577 := ⟨by decide +kernel, rfl⟩
theorem dLaw_law_577 : uD code 577 (.iload_n 3) 1 578 := ⟨by decide +kernel, rfl⟩
theorem dLaw_law_578 : uD code 578 (.iconst 1) 1 579 := ⟨by decide +kernel, rfl⟩
theorem dLaw_law_579 : uD code 579 (.iadd) 1 580 := ⟨by decide +kernel, rfl⟩
theorem dLaw_law_580 : uD code 580 (.iaload) 1 581 := ⟨by decide +kernel, rfl⟩
theorem dLaw_law_581 : uD code 581 (.invokevirtual 88) 3 584 := ⟨by decide +kernel, rfl⟩
theorem dLaw_law_584 : uD code 584 (.aload_n 2) 1 585 := ⟨by decide +kernel, rfl⟩
theorem dLaw_law_585 : uD code 585 (.aload_n 0) 1 586 := ⟨by decide +kernel, rfl⟩
theorem dLaw_law_586 : uD code 586 (.iload_n 3) 1 587 := ⟨by decide +kernel, rfl⟩
theorem dLaw_law_587 : uD code 587 (.iconst 1) 1 588 := ⟨by decide +kernel, rfl⟩
theorem dLaw_law_588 : uD code 588 (.iadd) 1 589 := ⟨by decide +kernel, rfl⟩
theorem dLaw_law_589 : uD code 589 (.iaload) 1 590 := ⟨by decide +kernel, rfl⟩
theorem dLaw_law_590 : uD code 590 (.invokevirtual 91) 3 593 := ⟨by decide +kernel, rfl⟩
theorem dLaw_law_593 : uB code 593 (.if_icmp .eq) 596 598 := ⟨5, by decide +kernel, rfl, by decide⟩
theorem dLaw_law_596 : uD code 596 (.iconst 0) 1 597 := ⟨by decide +kernel, rfl⟩
theorem dLaw_law_597 : uD code 597 (.ireturn) 1 598 := ⟨by decide +kernel, rfl⟩
theorem dLaw_law_598 : uD code 598 (.iinc 3 4) 3 601 := ⟨by decide +kernel, rfl⟩
theorem dLaw_law_601 : uB code 601 .goto 604 18 := ⟨-583, by decide +kernel, rfl, by decide⟩
theorem dLaw_law_604 : uD code 604 (.iconst 1) 1 605 := ⟨by decide +kernel, rfl⟩
theorem dLaw_law_605 : uD code 605 (.ireturn) 1 606 := ⟨by decide +kernel, rfl⟩
end
section
/-! calls that make nothing, by the number of their arguments; regions of the heap -/
section UV
variable {M : uM} {pc np : Nat} {l l' rest : List Value} {h : uHp} {k n : Nat} {Q : uPs}
theorem us_vn {idx b ci nargs : Nat} {fs st As : List Value} (M' : uM) (hd : uD M.cc pc (.invokevirtual idx) 3 np) (hcv : u_CV M.y.cls idx ci M' nargs) (hH : h.2 b = some (.inl (ci, fs))) (hst : st = As.reverse ++ .ref b :: rest) (hna : As.length = nargs) (hs : M'.d < M.d ∧ M'.mc = 0 ∧ M'.ms = 0 ∧ k ≤ M.mc ∧ n ≤ M.ms)
    (hcat : (rest.map fun v => v.category).sum ≤ 8) (hlen : (lg_sl (.ref b :: As)).length ≤ M'.nL) (he : u_ent M'.nL (.ref b :: As) = l') (K : uW M' 0 l' [] h 0 0 (u_ko M np l rest k n Q)) : uW M pc l st h k n Q := by
  obtain ⟨hmo, hlk, hin, hsel, r, hr, hrc⟩ := hcv
  obtain ⟨s1, s2, s3, s4, s5⟩ := hs
  refine us_callV (M' := M') hd hst hmo hna s1 hlk hin hsel hH hr hrc hcat (by rw [s2]; exact s4) (by rw [s3]; exact s5) hlen he ?_
  rw [s2, s3]
  exact K
theorem us_v0 {idx b ci : Nat} {fs : List Value} (M' : uM) (hd : uD M.cc pc (.invokevirtual idx) 3 np) (hcv : u_CV M.y.cls idx ci M' 0) (hH : h.2 b = some (.inl (ci, fs))) (hs : M'.d < M.d ∧ M'.mc = 0 ∧ M'.ms = 0 ∧ k ≤ M.mc ∧ n ≤ M.ms) (hcat : (rest.map fun v => v.category).sum ≤ 8) (hlen : (lg_sl [.ref b]).length ≤ M'.nL) (he : u_ent M'.nL [.ref b] = l') (K : uW M' 0 l' [] h 0 0 (u_ko M np l rest k n Q)) : uW M pc l (.ref b :: rest) h k n Q := us_vn (As := []) M' hd hcv hH rfl rfl hs hcat hlen he K
theorem us_v1 {idx b ci : Nat} {fs : List Value} {x1 : Value} (M' : uM) (hd : uD M.cc pc (.invokevirtual idx) 3 np) (hcv : u_CV M.y.cls idx ci M' 1) (hH : h.2 b = some (.inl (ci, fs))) (hs : M'.d < M.d ∧ M'.mc = 0 ∧ M'.ms = 0 ∧ k ≤ M.mc ∧ n ≤ M.ms) (hcat : (rest.map fun v => v.category).sum ≤ 8) (hlen : (lg_sl [.ref b, x1]).length ≤ M'.nL) (he : u_ent M'.nL [.ref b, x1] = l') (K : uW M' 0 l' [] h 0 0 (u_ko M np l rest k n Q)) : uW M pc l (x1 :: .ref b :: rest) h k n Q := us_vn (As := [x1]) M' hd hcv hH rfl rfl hs hcat hlen he K
theorem us_v2 {idx b ci : Nat} {fs : List Value} {x1 x2 : Value} (M' : uM) (hd : uD M.cc pc (.invokevirtual idx) 3 np) (hcv : u_CV M.y.cls idx ci M' 2) (hH : h.2 b = some (.inl (ci, fs))) (hs : M'.d < M.d ∧ M'.mc = 0 ∧ M'.ms = 0 ∧ k ≤ M.mc ∧ n ≤ M.ms) (hcat : (rest.map fun v => v.category).sum ≤ 8) (hlen : (lg_sl [.ref b, x1, x2]).length ≤ M'.nL) (he : u_ent M'.nL [.ref b, x1, x2] = l') (K : uW M' 0 l' [] h 0 0 (u_ko M np l rest k n Q)) : uW M pc l (x2 :: x1 :: .ref b :: rest) h k n Q := us_vn (As := [x1, x2]) M' hd hcv hH rfl rfl hs hcat hlen he K
theorem us_v3 {idx b ci : Nat} {fs : List Value} {x1 x2 x3 : Value} (M' : uM) (hd : uD M.cc pc (.invokevirtual idx) 3 np) (hcv : u_CV M.y.cls idx ci M' 3) (hH : h.2 b = some (.inl (ci, fs))) (hs : M'.d < M.d ∧ M'.mc = 0 ∧ M'.ms = 0 ∧ k ≤ M.mc ∧ n ≤ M.ms) (hcat : (rest.map fun v => v.category).sum ≤ 8) (hlen : (lg_sl [.ref b, x1, x2, x3]).length ≤ M'.nL) (he : u_ent M'.nL [.ref b, x1, x2, x3] = l') (K : uW M' 0 l' [] h 0 0 (u_ko M np l rest k n Q)) : uW M pc l (x3 :: x2 :: x1 :: .ref b :: rest) h k n Q := us_vn (As := [x1, x2, x3]) M' hd hcv hH rfl rfl hs hcat hlen he K
theorem us_v4 {idx b ci : Nat} {fs : List Value} {x1 x2 x3 x4 : Value} (M' : uM) (hd : uD M.cc pc (.invokevirtual idx) 3 np) (hcv : u_CV M.y.cls idx ci M' 4) (hH : h.2 b = some (.inl (ci, fs))) (hs : M'.d < M.d ∧ M'.mc = 0 ∧ M'.ms = 0 ∧ k ≤ M.mc ∧ n ≤ M.ms) (hcat : (rest.map fun v => v.category).sum ≤ 8) (hlen : (lg_sl [.ref b, x1, x2, x3, x4]).length ≤ M'.nL) (he : u_ent M'.nL [.ref b, x1, x2, x3, x4] = l') (K : uW M' 0 l' [] h 0 0 (u_ko M np l rest k n Q)) : uW M pc l (x4 :: x3 :: x2 :: x1 :: .ref b :: rest) h k n Q := us_vn (As := [x1, x2, x3, x4]) M' hd hcv hH rfl rfl hs hcat hlen he K
theorem us_sn {idx nargs : Nat} {st As : List Value} (M' : uM) (hd : uD M.cc pc (.invokestatic idx) 3 np) (hcv : u_CS M.y.cls idx M' nargs) (hst : st = As.reverse ++ rest) (hna : As.length = nargs) (hs : M'.d < M.d ∧ M'.mc = 0 ∧ M'.ms = 0 ∧ k ≤ M.mc ∧ n ≤ M.ms)
    (hcat : (rest.map fun v => v.category).sum ≤ 8) (hlen : (lg_sl As).length ≤ M'.nL) (he : u_ent M'.nL As = l') (K : uW M' 0 l' [] h 0 0 (u_ko M np l rest k n Q)) : uW M pc l st h k n Q := by
  obtain ⟨hmo, hlk, hin⟩ := hcv
  obtain ⟨s1, s2, s3, s4, s5⟩ := hs
  refine us_callS (M' := M') hd hst hmo hna s1 hlk hin hcat (by rw [s2]; exact s4) (by rw [s3]; exact s5) hlen he ?_
  rw [s2, s3]
  exact K
theorem us_s1 {idx : Nat} {x1 : Value} (M' : uM) (hd : uD M.cc pc (.invokestatic idx) 3 np) (hcv : u_CS M.y.cls idx M' 1) (hs : M'.d < M.d ∧ M'.mc = 0 ∧ M'.ms = 0 ∧ k ≤ M.mc ∧ n ≤ M.ms) (hcat : (rest.map fun v => v.category).sum ≤ 8) (hlen : (lg_sl [x1]).length ≤ M'.nL) (he : u_ent M'.nL [x1] = l') (K : uW M' 0 l' [] h 0 0 (u_ko M np l rest k n Q)) : uW M pc l (x1 :: rest) h k n Q := us_sn (As := [x1]) M' hd hcv rfl rfl hs hcat hlen he K
theorem us_s3 {idx : Nat} {x1 x2 x3 : Value} (M' : uM) (hd : uD M.cc pc (.invokestatic idx) 3 np) (hcv : u_CS M.y.cls idx M' 3) (hs : M'.d < M.d ∧ M'.mc = 0 ∧ M'.ms = 0 ∧ k ≤ M.mc ∧ n ≤ M.ms) (hcat : (rest.map fun v => v.category).sum ≤ 8) (hlen : (lg_sl [x1, x2, x3]).length ≤ M'.nL) (he : u_ent M'.nL [x1, x2, x3] = l') (K : uW M' 0 l' [] h 0 0 (u_ko M np l rest k n Q)) : uW M pc l (x3 :: x2 :: x1 :: rest) h k n Q := us_sn (As := [x1, x2, x3]) M' hd hcv rfl rfl hs hcat hlen he K
end UV
/-- nothing outside [lo, hi) has changed -/
def uSm (lo hi : Nat) (h h' : uHp) : Prop := h'.1 = h.1 ∧ ∀ b : Nat, b < lo ∨ hi ≤ b → h'.2 b = h.2 b
theorem uSm.rf {lo hi : Nat} {h : uHp} : uSm lo hi h h := ⟨rfl, fun _ _ => rfl⟩
theorem uSm.tr {lo hi : Nat} {h h' h'' : uHp} (a : uSm lo hi h h') (b : uSm lo hi h' h'') : uSm lo hi h h'' := ⟨b.1.trans a.1, fun q hq => (b.2 q hq).trans (a.2 q hq)⟩
theorem uSm.wd {lo hi lo' hi' : Nat} {h h' : uHp} (a : uSm lo hi h h') (h1 : lo' ≤ lo) (h2 : hi ≤ hi') : uSm lo' hi' h h' := ⟨a.1, fun q hq => a.2 q (by omega)⟩
theorem uSm.set {lo hi a : Nat} {c : uCel} {h h' : uHp} (k : uSm lo hi h h') (h1 : lo ≤ a) (h2 : a < hi) : uSm lo hi h (u_set h' a c) := ⟨k.1, fun q hq => (u_set_ne (by omega)).trans (k.2 q hq)⟩
theorem uSm.set0 {lo hi a : Nat} {c : uCel} {h : uHp} (h1 : lo ≤ a) (h2 : a < hi) : uSm lo hi h (u_set h a c) := uSm.rf.set h1 h2
theorem uSm.at {lo hi a : Nat} {c : uCel} {h h' : uHp} (k : uSm lo hi h h') (hc : h.2 a = some c) (h1 : a < lo ∨ hi ≤ a) : h'.2 a = some c := (k.2 a h1).trans hc
/-- a row of numbers: a Row at r, its array right behind it -/
def uRow (h : uHp) (r L : Nat) (xs : List Int) : Prop := h.2 r = some (.inl (6, [.ref (r + 1), ui xs.length])) ∧ (∃ f : Nat → Value, h.2 (r + 1) = some (.inr (0, L, f)) ∧ ∀ j, j < xs.length → f j = ui (xs.getD j 0)) ∧ xs.length ≤ L ∧ L < 1000 ∧ ∀ x ∈ xs, -1000000 ≤ x ∧ x ≤ 1000000
theorem uRow.kept {h h' : uHp} {r L lo hi : Nat} {xs : List Int} (R : uRow h r L xs) (k : uSm lo hi h h') (d : r + 2 ≤ lo ∨ hi ≤ r) : uRow h' r L xs := by
  obtain ⟨h1, ⟨f, h2, h3⟩, h4⟩ := R
  exact ⟨k.at h1 (by omega), ⟨f, k.at h2 (by omega), h3⟩, h4⟩
theorem uRow.rng {h : uHp} {r L : Nat} {xs : List Int} (R : uRow h r L xs) (j : Nat) : -1000000 ≤ xs.getD j 0 ∧ xs.getD j 0 ≤ 1000000 := by
  by_cases hj : j < xs.length
  · rw [List.getD_eq_getElem?_getD, List.getElem?_eq_getElem hj]
    exact R.2.2.2.2 _ (List.getElem_mem hj)
  · rw [List.getD_eq_getElem?_getD, List.getElem?_eq_none (by omega)]
    decide
/-- what at() tells -/
def ratI (xs : List Int) (i : Int) : Int := if 0 ≤ i then xs.getD i.toNat 0 else 0
theorem ratI_nat (xs : List Int) (j : Nat) : ratI xs (j : Int) = xs.getD j 0 := by simp [ratI]
theorem ratI_rng {h : uHp} {r L : Nat} {xs : List Int} (R : uRow h r L xs) (i : Int) : -1000000 ≤ ratI xs i ∧ ratI xs i ≤ 1000000 := by
  unfold ratI
  split
  · exact R.rng _
  · decide
theorem getD_set (xs : List Int) (i j : Nat) (x : Int) : (xs.set i x).getD j 0 = if i = j ∧ j < xs.length then x else xs.getD j 0 := by
  simp only [List.getD_eq_getElem?_getD]
  by_cases hij : i = j
  · subst hij
    by_cases hl : i < xs.length
    · rw [List.getElem?_set_self hl, if_pos ⟨rfl, hl⟩]; rfl
    · rw [List.getElem?_eq_none (by rw [List.length_set]; omega), List.getElem?_eq_none (by omega), if_neg (fun q => hl q.2)]
  · rw [List.getElem?_set_ne hij, if_neg (fun q => hij q.1)]
theorem getD_app (xs : List Int) (x : Int) (j : Nat) : (xs ++ [x]).getD j 0 = if j = xs.length then x else xs.getD j 0 := by
  simp only [List.getD_eq_getElem?_getD]
  by_cases hj : j < xs.length
  · rw [List.getElem?_append_left hj, if_neg (by omega)]
  · rw [List.getElem?_append_right (by omega)]
    by_cases hj2 : j = xs.length
    · subst hj2; simp
    · rw [if_neg hj2, List.getElem?_eq_none (l := [x]) (by simp; omega), List.getElem?_eq_none (l := xs) (by omega)]
/-- placeOf -/
def pofI : List Int → Int → Nat → Int
  | [], _, _ => -1
  | y :: ys, x, k => if y = x then k else pofI ys x (k + 1)
def plcI (xs : List Int) (x : Int) : Int := pofI xs x 0
/-- add, where there is room -/
def appI (L : Nat) (xs : List Int) (x : Int) : List Int := if xs.length < L then xs ++ [x] else xs
/-! stores into the locals, by place: the new list is written out -/
section UL
variable {M : uM} {pc np : Nat} {st t : List Value} {h : uHp} {k n : Nat} {Q : uPs}
theorem us_istore_0 {y : Value} {x : Int32} (hd : uD M.cc pc (.istore_n 0) 1 np) (hs : u_st1 (y :: t) 0 = true) (hi : 0 < M.nL) (K : uW M np (.int x :: t) st h k n Q) : uW M pc (y :: t) (.int x :: st) h k n Q := us_istore_n hd hs hi rfl K
theorem us_astore_0 {y : Value} {x : Nat} (hd : uD M.cc pc (.astore_n 0) 1 np) (hs : u_st1 (y :: t) 0 = true) (hi : 0 < M.nL) (K : uW M np (.ref x :: t) st h k n Q) : uW M pc (y :: t) (.ref x :: st) h k n Q := us_astore_n hd hs hi rfl K
theorem us_lstore_0 {y z : Value} {x : Int64} (hd : uD M.cc pc (.lstore_n 0) 1 np) (hs : u_st1 (y :: z :: t) 0 = true) (hi : 0 + 1 < M.nL) (K : uW M np (.long x :: .null :: t) st h k n Q) : uW M pc (y :: z :: t) (.long x :: st) h k n Q := us_lstore_n hd hs hi rfl K
theorem us_iinc_0 {x z : Int} (hd : uD M.cc pc (.iinc 0 z) 3 np) (hs : u_st1 (ui x :: t) 0 = true) (hi : 0 < M.nL) (K : uW M np (ui (x + z) :: t) st h k n Q) : uW M pc (ui x :: t) st h k n Q := us_iinc hd rfl hs hi rfl K
theorem us_istore_1 {a0 y : Value} {x : Int32} (hd : uD M.cc pc (.istore_n 1) 1 np) (hs : u_st1 (a0 :: y :: t) 1 = true) (hi : 1 < M.nL) (K : uW M np (a0 :: .int x :: t) st h k n Q) : uW M pc (a0 :: y :: t) (.int x :: st) h k n Q := us_istore_n hd hs hi rfl K
theorem us_astore_1 {a0 y : Value} {x : Nat} (hd : uD M.cc pc (.astore_n 1) 1 np) (hs : u_st1 (a0 :: y :: t) 1 = true) (hi : 1 < M.nL) (K : uW M np (a0 :: .ref x :: t) st h k n Q) : uW M pc (a0 :: y :: t) (.ref x :: st) h k n Q := us_astore_n hd hs hi rfl K
theorem us_lstore_1 {a0 y z : Value} {x : Int64} (hd : uD M.cc pc (.lstore_n 1) 1 np) (hs : u_st1 (a0 :: y :: z :: t) 1 = true) (hi : 1 + 1 < M.nL) (K : uW M np (a0 :: .long x :: .null :: t) st h k n Q) : uW M pc (a0 :: y :: z :: t) (.long x :: st) h k n Q := us_lstore_n hd hs hi rfl K
theorem us_iinc_1 {a0 : Value} {x z : Int} (hd : uD M.cc pc (.iinc 1 z) 3 np) (hs : u_st1 (a0 :: ui x :: t) 1 = true) (hi : 1 < M.nL) (K : uW M np (a0 :: ui (x + z) :: t) st h k n Q) : uW M pc (a0 :: ui x :: t) st h k n Q := us_iinc hd rfl hs hi rfl K
theorem us_istore_2 {a0 a1 y : Value} {x : Int32} (hd : uD M.cc pc (.istore_n 2) 1 np) (hs : u_st1 (a0 :: a1 :: y :: t) 2 = true) (hi : 2 < M.nL) (K : uW M np (a0 :: a1 :: .int x :: t) st h k n Q) : uW M pc (a0 :: a1 :: y :: t) (.int x :: st) h k n Q := us_istore_n hd hs hi rfl K
theorem us_astore_2 {a0 a1 y : Value} {x : Nat} (hd : uD M.cc pc (.astore_n 2) 1 np) (hs : u_st1 (a0 :: a1 :: y :: t) 2 = true) (hi : 2 < M.nL) (K : uW M np (a0 :: a1 :: .ref x :: t) st h k n Q) : uW M pc (a0 :: a1 :: y :: t) (.ref x :: st) h k n Q := us_astore_n hd hs hi rfl K
theorem us_lstore_2 {a0 a1 y z : Value} {x : Int64} (hd : uD M.cc pc (.lstore_n 2) 1 np) (hs : u_st1 (a0 :: a1 :: y :: z :: t) 2 = true) (hi : 2 + 1 < M.nL) (K : uW M np (a0 :: a1 :: .long x :: .null :: t) st h k n Q) : uW M pc (a0 :: a1 :: y :: z :: t) (.long x :: st) h k n Q := us_lstore_n hd hs hi rfl K
theorem us_iinc_2 {a0 a1 : Value} {x z : Int} (hd : uD M.cc pc (.iinc 2 z) 3 np) (hs : u_st1 (a0 :: a1 :: ui x :: t) 2 = true) (hi : 2 < M.nL) (K : uW M np (a0 :: a1 :: ui (x + z) :: t) st h k n Q) : uW M pc (a0 :: a1 :: ui x :: t) st h k n Q := us_iinc hd rfl hs hi rfl K
theorem us_istore_3 {a0 a1 a2 y : Value} {x : Int32} (hd : uD M.cc pc (.istore_n 3) 1 np) (hs : u_st1 (a0 :: a1 :: a2 :: y :: t) 3 = true) (hi : 3 < M.nL) (K : uW M np (a0 :: a1 :: a2 :: .int x :: t) st h k n Q) : uW M pc (a0 :: a1 :: a2 :: y :: t) (.int x :: st) h k n Q := us_istore_n hd hs hi rfl K
theorem us_astore_3 {a0 a1 a2 y : Value} {x : Nat} (hd : uD M.cc pc (.astore_n 3) 1 np) (hs : u_st1 (a0 :: a1 :: a2 :: y :: t) 3 = true) (hi : 3 < M.nL) (K : uW M np (a0 :: a1 :: a2 :: .ref x :: t) st h k n Q) : uW M pc (a0 :: a1 :: a2 :: y :: t) (.ref x :: st) h k n Q := us_astore_n hd hs hi rfl K
theorem us_lstore_3 {a0 a1 a2 y z : Value} {x : Int64} (hd : uD M.cc pc (.lstore_n 3) 1 np) (hs : u_st1 (a0 :: a1 :: a2 :: y :: z :: t) 3 = true) (hi : 3 + 1 < M.nL) (K : uW M np (a0 :: a1 :: a2 :: .long x :: .null :: t) st h k n Q) : uW M pc (a0 :: a1 :: a2 :: y :: z :: t) (.long x :: st) h k n Q := us_lstore_n hd hs hi rfl K
theorem us_iinc_3 {a0 a1 a2 : Value} {x z : Int} (hd : uD M.cc pc (.iinc 3 z) 3 np) (hs : u_st1 (a0 :: a1 :: a2 :: ui x :: t) 3 = true) (hi : 3 < M.nL) (K : uW M np (a0 :: a1 :: a2 :: ui (x + z) :: t) st h k n Q) : uW M pc (a0 :: a1 :: a2 :: ui x :: t) st h k n Q := us_iinc hd rfl hs hi rfl K
theorem us_istore_4 {a0 a1 a2 a3 y : Value} {x : Int32} (hd : uD M.cc pc (.istore 4) 2 np) (hs : u_st1 (a0 :: a1 :: a2 :: a3 :: y :: t) 4 = true) (hi : 4 < M.nL) (K : uW M np (a0 :: a1 :: a2 :: a3 :: .int x :: t) st h k n Q) : uW M pc (a0 :: a1 :: a2 :: a3 :: y :: t) (.int x :: st) h k n Q := us_istore hd hs hi rfl K
theorem us_astore_4 {a0 a1 a2 a3 y : Value} {x : Nat} (hd : uD M.cc pc (.astore 4) 2 np) (hs : u_st1 (a0 :: a1 :: a2 :: a3 :: y :: t) 4 = true) (hi : 4 < M.nL) (K : uW M np (a0 :: a1 :: a2 :: a3 :: .ref x :: t) st h k n Q) : uW M pc (a0 :: a1 :: a2 :: a3 :: y :: t) (.ref x :: st) h k n Q := us_astore hd hs hi rfl K
theorem us_lstore_4 {a0 a1 a2 a3 y z : Value} {x : Int64} (hd : uD M.cc pc (.lstore 4) 2 np) (hs : u_st1 (a0 :: a1 :: a2 :: a3 :: y :: z :: t) 4 = true) (hi : 4 + 1 < M.nL) (K : uW M np (a0 :: a1 :: a2 :: a3 :: .long x :: .null :: t) st h k n Q) : uW M pc (a0 :: a1 :: a2 :: a3 :: y :: z :: t) (.long x :: st) h k n Q := us_lstore hd hs hi rfl K
theorem us_iinc_4 {a0 a1 a2 a3 : Value} {x z : Int} (hd : uD M.cc pc (.iinc 4 z) 3 np) (hs : u_st1 (a0 :: a1 :: a2 :: a3 :: ui x :: t) 4 = true) (hi : 4 < M.nL) (K : uW M np (a0 :: a1 :: a2 :: a3 :: ui (x + z) :: t) st h k n Q) : uW M pc (a0 :: a1 :: a2 :: a3 :: ui x :: t) st h k n Q := us_iinc hd rfl hs hi rfl K
theorem us_istore_5 {a0 a1 a2 a3 a4 y : Value} {x : Int32} (hd : uD M.cc pc (.istore 5) 2 np) (hs : u_st1 (a0 :: a1 :: a2 :: a3 :: a4 :: y :: t) 5 = true) (hi : 5 < M.nL) (K : uW M np (a0 :: a1 :: a2 :: a3 :: a4 :: .int x :: t) st h k n Q) : uW M pc (a0 :: a1 :: a2 :: a3 :: a4 :: y :: t) (.int x :: st) h k n Q := us_istore hd hs hi rfl K
theorem us_astore_5 {a0 a1 a2 a3 a4 y : Value} {x : Nat} (hd : uD M.cc pc (.astore 5) 2 np) (hs : u_st1 (a0 :: a1 :: a2 :: a3 :: a4 :: y :: t) 5 = true) (hi : 5 < M.nL) (K : uW M np (a0 :: a1 :: a2 :: a3 :: a4 :: .ref x :: t) st h k n Q) : uW M pc (a0 :: a1 :: a2 :: a3 :: a4 :: y :: t) (.ref x :: st) h k n Q := us_astore hd hs hi rfl K
theorem us_lstore_5 {a0 a1 a2 a3 a4 y z : Value} {x : Int64} (hd : uD M.cc pc (.lstore 5) 2 np) (hs : u_st1 (a0 :: a1 :: a2 :: a3 :: a4 :: y :: z :: t) 5 = true) (hi : 5 + 1 < M.nL) (K : uW M np (a0 :: a1 :: a2 :: a3 :: a4 :: .long x :: .null :: t) st h k n Q) : uW M pc (a0 :: a1 :: a2 :: a3 :: a4 :: y :: z :: t) (.long x :: st) h k n Q := us_lstore hd hs hi rfl K
theorem us_iinc_5 {a0 a1 a2 a3 a4 : Value} {x z : Int} (hd : uD M.cc pc (.iinc 5 z) 3 np) (hs : u_st1 (a0 :: a1 :: a2 :: a3 :: a4 :: ui x :: t) 5 = true) (hi : 5 < M.nL) (K : uW M np (a0 :: a1 :: a2 :: a3 :: a4 :: ui (x + z) :: t) st h k n Q) : uW M pc (a0 :: a1 :: a2 :: a3 :: a4 :: ui x :: t) st h k n Q := us_iinc hd rfl hs hi rfl K
theorem us_istore_6 {a0 a1 a2 a3 a4 a5 y : Value} {x : Int32} (hd : uD M.cc pc (.istore 6) 2 np) (hs : u_st1 (a0 :: a1 :: a2 :: a3 :: a4 :: a5 :: y :: t) 6 = true) (hi : 6 < M.nL) (K : uW M np (a0 :: a1 :: a2 :: a3 :: a4 :: a5 :: .int x :: t) st h k n Q) : uW M pc (a0 :: a1 :: a2 :: a3 :: a4 :: a5 :: y :: t) (.int x :: st) h k n Q := us_istore hd hs hi rfl K
theorem us_astore_6 {a0 a1 a2 a3 a4 a5 y : Value} {x : Nat} (hd : uD M.cc pc (.astore 6) 2 np) (hs : u_st1 (a0 :: a1 :: a2 :: a3 :: a4 :: a5 :: y :: t) 6 = true) (hi : 6 < M.nL) (K : uW M np (a0 :: a1 :: a2 :: a3 :: a4 :: a5 :: .ref x :: t) st h k n Q) : uW M pc (a0 :: a1 :: a2 :: a3 :: a4 :: a5 :: y :: t) (.ref x :: st) h k n Q := us_astore hd hs hi rfl K
theorem us_lstore_6 {a0 a1 a2 a3 a4 a5 y z : Value} {x : Int64} (hd : uD M.cc pc (.lstore 6) 2 np) (hs : u_st1 (a0 :: a1 :: a2 :: a3 :: a4 :: a5 :: y :: z :: t) 6 = true) (hi : 6 + 1 < M.nL) (K : uW M np (a0 :: a1 :: a2 :: a3 :: a4 :: a5 :: .long x :: .null :: t) st h k n Q) : uW M pc (a0 :: a1 :: a2 :: a3 :: a4 :: a5 :: y :: z :: t) (.long x :: st) h k n Q := us_lstore hd hs hi rfl K
theorem us_iinc_6 {a0 a1 a2 a3 a4 a5 : Value} {x z : Int} (hd : uD M.cc pc (.iinc 6 z) 3 np) (hs : u_st1 (a0 :: a1 :: a2 :: a3 :: a4 :: a5 :: ui x :: t) 6 = true) (hi : 6 < M.nL) (K : uW M np (a0 :: a1 :: a2 :: a3 :: a4 :: a5 :: ui (x + z) :: t) st h k n Q) : uW M pc (a0 :: a1 :: a2 :: a3 :: a4 :: a5 :: ui x :: t) st h k n Q := us_iinc hd rfl hs hi rfl K
theorem us_istore_7 {a0 a1 a2 a3 a4 a5 a6 y : Value} {x : Int32} (hd : uD M.cc pc (.istore 7) 2 np) (hs : u_st1 (a0 :: a1 :: a2 :: a3 :: a4 :: a5 :: a6 :: y :: t) 7 = true) (hi : 7 < M.nL) (K : uW M np (a0 :: a1 :: a2 :: a3 :: a4 :: a5 :: a6 :: .int x :: t) st h k n Q) : uW M pc (a0 :: a1 :: a2 :: a3 :: a4 :: a5 :: a6 :: y :: t) (.int x :: st) h k n Q := us_istore hd hs hi rfl K
theorem us_astore_7 {a0 a1 a2 a3 a4 a5 a6 y : Value} {x : Nat} (hd : uD M.cc pc (.astore 7) 2 np) (hs : u_st1 (a0 :: a1 :: a2 :: a3 :: a4 :: a5 :: a6 :: y :: t) 7 = true) (hi : 7 < M.nL) (K : uW M np (a0 :: a1 :: a2 :: a3 :: a4 :: a5 :: a6 :: .ref x :: t) st h k n Q) : uW M pc (a0 :: a1 :: a2 :: a3 :: a4 :: a5 :: a6 :: y :: t) (.ref x :: st) h k n Q := us_astore hd hs hi rfl K
theorem us_lstore_7 {a0 a1 a2 a3 a4 a5 a6 y z : Value} {x : Int64} (hd : uD M.cc pc (.lstore 7) 2 np) (hs : u_st1 (a0 :: a1 :: a2 :: a3 :: a4 :: a5 :: a6 :: y :: z :: t) 7 = true) (hi : 7 + 1 < M.nL) (K : uW M np (a0 :: a1 :: a2 :: a3 :: a4 :: a5 :: a6 :: .long x :: .null :: t) st h k n Q) : uW M pc (a0 :: a1 :: a2 :: a3 :: a4 :: a5 :: a6 :: y :: z :: t) (.long x :: st) h k n Q := us_lstore hd hs hi rfl K
theorem us_iinc_7 {a0 a1 a2 a3 a4 a5 a6 : Value} {x z : Int} (hd : uD M.cc pc (.iinc 7 z) 3 np) (hs : u_st1 (a0 :: a1 :: a2 :: a3 :: a4 :: a5 :: a6 :: ui x :: t) 7 = true) (hi : 7 < M.nL) (K : uW M np (a0 :: a1 :: a2 :: a3 :: a4 :: a5 :: a6 :: ui (x + z) :: t) st h k n Q) : uW M pc (a0 :: a1 :: a2 :: a3 :: a4 :: a5 :: a6 :: ui x :: t) st h k n Q := us_iinc hd rfl hs hi rfl K
theorem us_istore_8 {a0 a1 a2 a3 a4 a5 a6 a7 y : Value} {x : Int32} (hd : uD M.cc pc (.istore 8) 2 np) (hs : u_st1 (a0 :: a1 :: a2 :: a3 :: a4 :: a5 :: a6 :: a7 :: y :: t) 8 = true) (hi : 8 < M.nL) (K : uW M np (a0 :: a1 :: a2 :: a3 :: a4 :: a5 :: a6 :: a7 :: .int x :: t) st h k n Q) : uW M pc (a0 :: a1 :: a2 :: a3 :: a4 :: a5 :: a6 :: a7 :: y :: t) (.int x :: st) h k n Q := us_istore hd hs hi rfl K
theorem us_astore_8 {a0 a1 a2 a3 a4 a5 a6 a7 y : Value} {x : Nat} (hd : uD M.cc pc (.astore 8) 2 np) (hs : u_st1 (a0 :: a1 :: a2 :: a3 :: a4 :: a5 :: a6 :: a7 :: y :: t) 8 = true) (hi : 8 < M.nL) (K : uW M np (a0 :: a1 :: a2 :: a3 :: a4 :: a5 :: a6 :: a7 :: .ref x :: t) st h k n Q) : uW M pc (a0 :: a1 :: a2 :: a3 :: a4 :: a5 :: a6 :: a7 :: y :: t) (.ref x :: st) h k n Q := us_astore hd hs hi rfl K
theorem us_lstore_8 {a0 a1 a2 a3 a4 a5 a6 a7 y z : Value} {x : Int64} (hd : uD M.cc pc (.lstore 8) 2 np) (hs : u_st1 (a0 :: a1 :: a2 :: a3 :: a4 :: a5 :: a6 :: a7 :: y :: z :: t) 8 = true) (hi : 8 + 1 < M.nL) (K : uW M np (a0 :: a1 :: a2 :: a3 :: a4 :: a5 :: a6 :: a7 :: .long x :: .null :: t) st h k n Q) : uW M pc (a0 :: a1 :: a2 :: a3 :: a4 :: a5 :: a6 :: a7 :: y :: z :: t) (.long x :: st) h k n Q := us_lstore hd hs hi rfl K
theorem us_iinc_8 {a0 a1 a2 a3 a4 a5 a6 a7 : Value} {x z : Int} (hd : uD M.cc pc (.iinc 8 z) 3 np) (hs : u_st1 (a0 :: a1 :: a2 :: a3 :: a4 :: a5 :: a6 :: a7 :: ui x :: t) 8 = true) (hi : 8 < M.nL) (K : uW M np (a0 :: a1 :: a2 :: a3 :: a4 :: a5 :: a6 :: a7 :: ui (x + z) :: t) st h k n Q) : uW M pc (a0 :: a1 :: a2 :: a3 :: a4 :: a5 :: a6 :: a7 :: ui x :: t) st h k n Q := us_iinc hd rfl hs hi rfl K
theorem us_istore_9 {a0 a1 a2 a3 a4 a5 a6 a7 a8 y : Value} {x : Int32} (hd : uD M.cc pc (.istore 9) 2 np) (hs : u_st1 (a0 :: a1 :: a2 :: a3 :: a4 :: a5 :: a6 :: a7 :: a8 :: y :: t) 9 = true) (hi : 9 < M.nL) (K : uW M np (a0 :: a1 :: a2 :: a3 :: a4 :: a5 :: a6 :: a7 :: a8 :: .int x :: t) st h k n Q) : uW M pc (a0 :: a1 :: a2 :: a3 :: a4 :: a5 :: a6 :: a7 :: a8 :: y :: t) (.int x :: st) h k n Q := us_istore hd hs hi rfl K
theorem us_astore_9 {a0 a1 a2 a3 a4 a5 a6 a7 a8 y : Value} {x : Nat} (hd : uD M.cc pc (.astore 9) 2 np) (hs : u_st1 (a0 :: a1 :: a2 :: a3 :: a4 :: a5 :: a6 :: a7 :: a8 :: y :: t) 9 = true) (hi : 9 < M.nL) (K : uW M np (a0 :: a1 :: a2 :: a3 :: a4 :: a5 :: a6 :: a7 :: a8 :: .ref x :: t) st h k n Q) : uW M pc (a0 :: a1 :: a2 :: a3 :: a4 :: a5 :: a6 :: a7 :: a8 :: y :: t) (.ref x :: st) h k n Q := us_astore hd hs hi rfl K
theorem us_lstore_9 {a0 a1 a2 a3 a4 a5 a6 a7 a8 y z : Value} {x : Int64} (hd : uD M.cc pc (.lstore 9) 2 np) (hs : u_st1 (a0 :: a1 :: a2 :: a3 :: a4 :: a5 :: a6 :: a7 :: a8 :: y :: z :: t) 9 = true) (hi : 9 + 1 < M.nL) (K : uW M np (a0 :: a1 :: a2 :: a3 :: a4 :: a5 :: a6 :: a7 :: a8 :: .long x :: .null :: t) st h k n Q) : uW M pc (a0 :: a1 :: a2 :: a3 :: a4 :: a5 :: a6 :: a7 :: a8 :: y :: z :: t) (.long x :: st) h k n Q := us_lstore hd hs hi rfl K
theorem us_iinc_9 {a0 a1 a2 a3 a4 a5 a6 a7 a8 : Value} {x z : Int} (hd : uD M.cc pc (.iinc 9 z) 3 np) (hs : u_st1 (a0 :: a1 :: a2 :: a3 :: a4 :: a5 :: a6 :: a7 :: a8 :: ui x :: t) 9 = true) (hi : 9 < M.nL) (K : uW M np (a0 :: a1 :: a2 :: a3 :: a4 :: a5 :: a6 :: a7 :: a8 :: ui (x + z) :: t) st h k n Q) : uW M pc (a0 :: a1 :: a2 :: a3 :: a4 :: a5 :: a6 :: a7 :: a8 :: ui x :: t) st h k n Q := us_iinc hd rfl hs hi rfl K
end UL
end
section
/-! Row: a row of numbers -/
theorem c_Row_size {h : uHp} {r L : Nat} {xs : List Int} {Q : uPs} (R : uRow h r L xs) (hQ : Q (some (ui xs.length)) h) : uW mRow_size 0 [.ref r] [] h 0 0 Q := by
  obtain ⟨hr, ⟨f, ha, hf⟩, hle, hL, hx⟩ := id R
  refine us_aload_n dRow_size_0 rfl ?_
  refine us_getf 6 1 dRow_size_1 kF_Row_21 hr rfl ?_
  refine us_ireturn dRow_size_4 rfl (Nat.le_of_ble_eq_true rfl) (Nat.le_of_ble_eq_true rfl) ?_
  exact hQ

theorem c_Row_clear {h : uHp} {r L : Nat} {xs : List Int} {Q : uPs} (R : uRow h r L xs) (hQ : ∀ h' : uHp, uRow h' r L [] → uSm r (r + 2) h h' → Q none h') : uW mRow_clear 0 [.ref r] [] h 0 0 Q := by
  obtain ⟨hr, ⟨f, ha, hf⟩, hle, hL, hx⟩ := id R
  refine us_aload_n dRow_clear_0 rfl ?_
  refine us_iconst dRow_clear_1 ?_
  refine us_putf 6 1 dRow_clear_2 kP_Row_21 hr rfl rfl ?_
  refine us_return dRow_clear_5 rfl (Nat.le_of_ble_eq_true rfl) (Nat.le_of_ble_eq_true rfl) ?_
  exact hQ _ ⟨u_set_eq _ _ _, ⟨f, (u_set_ne (by omega)).trans ha, fun j hj => absurd hj (by simp)⟩, Nat.zero_le _, hL, by simp⟩ (uSm.set0 (by omega) (by omega))

theorem c_Row_at {h : uHp} {r L : Nat} {xs : List Int} {i : Int} {Q : uPs} (R : uRow h r L xs) (hi : -2147483648 ≤ i ∧ i ≤ 2147483647) (hQ : Q (some (ui (ratI xs i))) h) : uW mRow_at 0 [.ref r, ui i] [] h 0 0 Q := by
  obtain ⟨hr, ⟨f, ha, hf⟩, hle, hL, hx⟩ := id R
  refine us_iload_n dRow_at_0 rfl ?_
  refine us_if_lt dRow_at_1 (by omega) (fun c1 => ?_) (fun c1 => ?_)
  · skip
    have e0 : ratI xs i = 0 := by
      by_cases hi0 : 0 ≤ i
      · rw [show ratI xs i = xs.getD i.toNat 0 from if_pos hi0, List.getD_eq_getElem?_getD, List.getElem?_eq_none (by omega)]; rfl
      · exact if_neg hi0
    rw [e0] at hQ
    refine us_iconst dRow_at_30 ?_
    try (rw [show ratI xs i = xs.getD i.toNat 0 from if_pos (by omega)] at hQ)
    refine us_ireturn dRow_at_31 rfl (Nat.le_of_ble_eq_true rfl) (Nat.le_of_ble_eq_true rfl) ?_
    exact hQ
  · skip
    refine us_iload_n dRow_at_4 rfl ?_
    refine us_aload_n dRow_at_5 rfl ?_
    refine us_getf 6 1 dRow_at_6 kF_Row_21 hr rfl ?_
    refine us_icmp_ge dRow_at_9 (by omega) (fun c2 => ?_) (fun c2 => ?_)
    · skip
      have e0 : ratI xs i = 0 := by
        by_cases hi0 : 0 ≤ i
        · rw [show ratI xs i = xs.getD i.toNat 0 from if_pos hi0, List.getD_eq_getElem?_getD, List.getElem?_eq_none (by omega)]; rfl
        · exact if_neg hi0
      rw [e0] at hQ
      refine us_iconst dRow_at_30 ?_
      try (rw [show ratI xs i = xs.getD i.toNat 0 from if_pos (by omega)] at hQ)
      refine us_ireturn dRow_at_31 rfl (Nat.le_of_ble_eq_true rfl) (Nat.le_of_ble_eq_true rfl) ?_
      exact hQ
    · skip
      refine us_iload_n dRow_at_12 rfl ?_
      refine us_aload_n dRow_at_13 rfl ?_
      refine us_getf 6 0 dRow_at_14 kF_Row_15 hr rfl ?_
      refine us_alen dRow_at_17 ha ?_
      refine us_icmp_ge dRow_at_18 (by omega) (fun c3 => ?_) (fun c3 => ?_)
      · skip
        have e0 : ratI xs i = 0 := by
          by_cases hi0 : 0 ≤ i
          · rw [show ratI xs i = xs.getD i.toNat 0 from if_pos hi0, List.getD_eq_getElem?_getD, List.getElem?_eq_none (by omega)]; rfl
          · exact if_neg hi0
        rw [e0] at hQ
        refine us_iconst dRow_at_30 ?_
        try (rw [show ratI xs i = xs.getD i.toNat 0 from if_pos (by omega)] at hQ)
        refine us_ireturn dRow_at_31 rfl (Nat.le_of_ble_eq_true rfl) (Nat.le_of_ble_eq_true rfl) ?_
        exact hQ
      · skip
        refine us_aload_n dRow_at_21 rfl ?_
        refine us_getf 6 0 dRow_at_22 kF_Row_15 hr rfl ?_
        refine us_iload_n dRow_at_25 rfl ?_
        refine us_iald i.toNat dRow_at_26 ha (by omega) (by omega) (by omega) (hf i.toNat (by omega)) ?_
        refine us_goto dRow_at_27 ?_
        try (rw [show ratI xs i = xs.getD i.toNat 0 from if_pos (by omega)] at hQ)
        refine us_ireturn dRow_at_31 rfl (Nat.le_of_ble_eq_true rfl) (Nat.le_of_ble_eq_true rfl) ?_
        exact hQ

theorem c_Row_add {h : uHp} {r L : Nat} {xs : List Int} {x : Int} {Q : uPs} (R : uRow h r L xs) (hxx : -1000000 ≤ x ∧ x ≤ 1000000) (hQ : ∀ h' : uHp, uRow h' r L (appI L xs x) → uSm r (r + 2) h h' → Q none h') : uW mRow_add 0 [.ref r, ui x] [] h 0 0 Q := by
  obtain ⟨hr, ⟨f, ha, hf⟩, hle, hL, hx⟩ := id R
  refine us_aload_n dRow_add_0 rfl ?_
  refine us_getf 6 1 dRow_add_1 kF_Row_21 hr rfl ?_
  refine us_if_lt dRow_add_4 (by omega) (fun c1 => absurd c1 (by omega)) (fun c1 => ?_)
  refine us_aload_n dRow_add_7 rfl ?_
  refine us_getf 6 1 dRow_add_8 kF_Row_21 hr rfl ?_
  refine us_aload_n dRow_add_11 rfl ?_
  refine us_getf 6 0 dRow_add_12 kF_Row_15 hr rfl ?_
  refine us_alen dRow_add_15 ha ?_
  refine us_icmp_ge dRow_add_16 (by omega) (fun c2 => ?_) (fun c2 => ?_)
  · skip
    have e0 : appI L xs x = xs := if_neg (by omega)
    rw [e0] at hQ
    refine us_return dRow_add_39 rfl (Nat.le_of_ble_eq_true rfl) (Nat.le_of_ble_eq_true rfl) ?_
    first
      | exact hQ _ R uSm.rf
      | (refine hQ _ ⟨?_, ⟨_, (u_set_ne (by omega)).trans (u_set_eq _ _ _), fun j hj => ?_⟩, by simp; omega, hL, fun y hy => ?_⟩ ((uSm.set0 (by omega) (by omega)).set (by omega) (by omega))
         · rw [u_set_eq, List.length_append]; rfl
         · rw [getD_app]; unfold updV
           by_cases hj2 : j = xs.length
           · rw [if_pos hj2, if_pos hj2]
           · rw [if_neg hj2, if_neg hj2]; exact hf j (by simp at hj; omega)
         · rcases List.mem_append.mp hy with hy | hy
           · exact hx y hy
           · simp at hy; omega)
  · skip
    have e0 : appI L xs x = xs ++ [x] := if_pos (by omega)
    rw [e0] at hQ
    refine us_aload_n dRow_add_19 rfl ?_
    refine us_getf 6 0 dRow_add_20 kF_Row_15 hr rfl ?_
    refine us_aload_n dRow_add_23 rfl ?_
    refine us_getf 6 1 dRow_add_24 kF_Row_21 hr rfl ?_
    refine us_iload_n dRow_add_27 rfl ?_
    refine us_iast xs.length dRow_add_28 ha rfl (by omega) (by omega) ?_
    refine us_aload_n dRow_add_29 rfl ?_
    refine us_dup dRow_add_30 rfl ?_
    refine us_getf 6 1 dRow_add_31 kF_Row_21 ((u_set_ne (by omega)).trans hr) rfl ?_
    refine us_iconst dRow_add_34 ?_
    refine us_iadd dRow_add_35 ?_
    refine us_putf 6 1 dRow_add_36 kP_Row_21 ((u_set_ne (by omega)).trans hr) rfl rfl ?_
    refine us_return dRow_add_39 rfl (Nat.le_of_ble_eq_true rfl) (Nat.le_of_ble_eq_true rfl) ?_
    first
      | exact hQ _ R uSm.rf
      | (refine hQ _ ⟨?_, ⟨_, (u_set_ne (by omega)).trans (u_set_eq _ _ _), fun j hj => ?_⟩, by simp; omega, hL, fun y hy => ?_⟩ ((uSm.set0 (by omega) (by omega)).set (by omega) (by omega))
         · rw [u_set_eq, List.length_append]; rfl
         · rw [getD_app]; unfold updV
           by_cases hj2 : j = xs.length
           · rw [if_pos hj2, if_pos hj2]
           · rw [if_neg hj2, if_neg hj2]; exact hf j (by simp at hj; omega)
         · rcases List.mem_append.mp hy with hy | hy
           · exact hx y hy
           · simp at hy; omega)

theorem c_Row_put {h : uHp} {r L : Nat} {xs : List Int} {i x : Int} {Q : uPs} (R : uRow h r L xs) (hi : -2147483648 ≤ i ∧ i ≤ 2147483647) (hxx : -1000000 ≤ x ∧ x ≤ 1000000) (hQ : ∀ h' : uHp, uRow h' r L (if 0 ≤ i then xs.set i.toNat x else xs) → uSm r (r + 2) h h' → Q none h') : uW mRow_put 0 [.ref r, ui i, ui x] [] h 0 0 Q := by
  obtain ⟨hr, ⟨f, ha, hf⟩, hle, hL, hx⟩ := id R
  refine us_iload_n dRow_put_0 rfl ?_
  refine us_if_lt dRow_put_1 (by omega) (fun c1 => ?_) (fun c1 => ?_)
  · skip
    refine us_return dRow_put_28 rfl (Nat.le_of_ble_eq_true rfl) (Nat.le_of_ble_eq_true rfl) ?_
    first
      | (refine hQ _ ?_ uSm.rf; rw [if_neg (by omega)]; exact R)
      | (refine hQ _ ?_ uSm.rf; rw [if_pos (by omega), List.set_eq_of_length_le (by omega)]; exact R)
      | (refine hQ _ ?_ (uSm.set0 (by omega) (by omega))
         rw [if_pos (by omega)]
         refine ⟨by rw [List.length_set]; exact (u_set_ne (by omega)).trans hr, ⟨_, u_set_eq _ _ _, fun j hj => ?_⟩, by rw [List.length_set]; exact hle, hL, fun y hy => ?_⟩
         · rw [getD_set]; unfold updV
           rw [List.length_set] at hj
           by_cases hj2 : j = i.toNat
           · rw [if_pos hj2, if_pos ⟨hj2.symm, hj⟩]
           · rw [if_neg hj2, if_neg (fun q => hj2 q.1.symm)]; exact hf j hj
         · rcases List.mem_or_eq_of_mem_set hy with hy | hy
           · exact hx y hy
           · omega)
  · skip
    refine us_iload_n dRow_put_4 rfl ?_
    refine us_aload_n dRow_put_5 rfl ?_
    refine us_getf 6 1 dRow_put_6 kF_Row_21 hr rfl ?_
    refine us_icmp_ge dRow_put_9 (by omega) (fun c2 => ?_) (fun c2 => ?_)
    · skip
      refine us_return dRow_put_28 rfl (Nat.le_of_ble_eq_true rfl) (Nat.le_of_ble_eq_true rfl) ?_
      first
        | (refine hQ _ ?_ uSm.rf; rw [if_neg (by omega)]; exact R)
        | (refine hQ _ ?_ uSm.rf; rw [if_pos (by omega), List.set_eq_of_length_le (by omega)]; exact R)
        | (refine hQ _ ?_ (uSm.set0 (by omega) (by omega))
           rw [if_pos (by omega)]
           refine ⟨by rw [List.length_set]; exact (u_set_ne (by omega)).trans hr, ⟨_, u_set_eq _ _ _, fun j hj => ?_⟩, by rw [List.length_set]; exact hle, hL, fun y hy => ?_⟩
           · rw [getD_set]; unfold updV
             rw [List.length_set] at hj
             by_cases hj2 : j = i.toNat
             · rw [if_pos hj2, if_pos ⟨hj2.symm, hj⟩]
             · rw [if_neg hj2, if_neg (fun q => hj2 q.1.symm)]; exact hf j hj
           · rcases List.mem_or_eq_of_mem_set hy with hy | hy
             · exact hx y hy
             · omega)
    · skip
      refine us_iload_n dRow_put_12 rfl ?_
      refine us_aload_n dRow_put_13 rfl ?_
      refine us_getf 6 0 dRow_put_14 kF_Row_15 hr rfl ?_
      refine us_alen dRow_put_17 ha ?_
      refine us_icmp_ge dRow_put_18 (by omega) (fun c3 => ?_) (fun c3 => ?_)
      · skip
        refine us_return dRow_put_28 rfl (Nat.le_of_ble_eq_true rfl) (Nat.le_of_ble_eq_true rfl) ?_
        first
          | (refine hQ _ ?_ uSm.rf; rw [if_neg (by omega)]; exact R)
          | (refine hQ _ ?_ uSm.rf; rw [if_pos (by omega), List.set_eq_of_length_le (by omega)]; exact R)
          | (refine hQ _ ?_ (uSm.set0 (by omega) (by omega))
             rw [if_pos (by omega)]
             refine ⟨by rw [List.length_set]; exact (u_set_ne (by omega)).trans hr, ⟨_, u_set_eq _ _ _, fun j hj => ?_⟩, by rw [List.length_set]; exact hle, hL, fun y hy => ?_⟩
             · rw [getD_set]; unfold updV
               rw [List.length_set] at hj
               by_cases hj2 : j = i.toNat
               · rw [if_pos hj2, if_pos ⟨hj2.symm, hj⟩]
               · rw [if_neg hj2, if_neg (fun q => hj2 q.1.symm)]; exact hf j hj
             · rcases List.mem_or_eq_of_mem_set hy with hy | hy
               · exact hx y hy
               · omega)
      · skip
        refine us_aload_n dRow_put_21 rfl ?_
        refine us_getf 6 0 dRow_put_22 kF_Row_15 hr rfl ?_
        refine us_iload_n dRow_put_25 rfl ?_
        refine us_iload_n dRow_put_26 rfl ?_
        refine us_iast i.toNat dRow_put_27 ha (by omega) (by omega) (by omega) ?_
        refine us_return dRow_put_28 rfl (Nat.le_of_ble_eq_true rfl) (Nat.le_of_ble_eq_true rfl) ?_
        first
          | (refine hQ _ ?_ uSm.rf; rw [if_neg (by omega)]; exact R)
          | (refine hQ _ ?_ uSm.rf; rw [if_pos (by omega), List.set_eq_of_length_le (by omega)]; exact R)
          | (refine hQ _ ?_ (uSm.set0 (by omega) (by omega))
             rw [if_pos (by omega)]
             refine ⟨by rw [List.length_set]; exact (u_set_ne (by omega)).trans hr, ⟨_, u_set_eq _ _ _, fun j hj => ?_⟩, by rw [List.length_set]; exact hle, hL, fun y hy => ?_⟩
             · rw [getD_set]; unfold updV
               rw [List.length_set] at hj
               by_cases hj2 : j = i.toNat
               · rw [if_pos hj2, if_pos ⟨hj2.symm, hj⟩]
               · rw [if_neg hj2, if_neg (fun q => hj2 q.1.symm)]; exact hf j hj
             · rcases List.mem_or_eq_of_mem_set hy with hy | hy
               · exact hx y hy
               · omega)

theorem c_Row_last {h : uHp} {r L : Nat} {xs : List Int} {Q : uPs} (R : uRow h r L xs) (hQ : Q (some (ui (xs.getLastD (-1)))) h) : uW mRow_last 0 [.ref r] [] h 0 0 Q := by
  obtain ⟨hr, ⟨f, ha, hf⟩, hle, hL, hx⟩ := id R
  refine us_aload_n dRow_last_0 rfl ?_
  refine us_getf 6 1 dRow_last_1 kF_Row_21 hr rfl ?_
  refine us_if_le dRow_last_4 (by omega) (fun c1 => ?_) (fun c1 => ?_)
  · skip
    rw [show xs = [] from List.length_eq_zero_iff.mp (by omega)] at hQ
    refine us_iconst dRow_last_33 ?_
    try (rw [show xs.getLastD (-1) = xs.getD (xs.length - 1) 0 by rw [List.getLastD_eq_getLast?, List.getLast?_eq_getElem?, List.getD_eq_getElem?_getD, List.getElem?_eq_getElem (by omega)]; rfl] at hQ)
    refine us_ireturn dRow_last_34 rfl (Nat.le_of_ble_eq_true rfl) (Nat.le_of_ble_eq_true rfl) ?_
    exact hQ
  · skip
    refine us_aload_n dRow_last_7 rfl ?_
    refine us_getf 6 1 dRow_last_8 kF_Row_21 hr rfl ?_
    refine us_aload_n dRow_last_11 rfl ?_
    refine us_getf 6 0 dRow_last_12 kF_Row_15 hr rfl ?_
    refine us_alen dRow_last_15 ha ?_
    refine us_icmp_gt dRow_last_16 (by omega) (fun c2 => absurd c2 (by omega)) (fun c2 => ?_)
    refine us_aload_n dRow_last_19 rfl ?_
    refine us_getf 6 0 dRow_last_20 kF_Row_15 hr rfl ?_
    refine us_aload_n dRow_last_23 rfl ?_
    refine us_getf 6 1 dRow_last_24 kF_Row_21 hr rfl ?_
    refine us_iconst dRow_last_27 ?_
    refine us_isub dRow_last_28 ?_
    refine us_iald (xs.length - 1) dRow_last_29 ha (by omega) (by omega) (by omega) (hf (xs.length - 1) (by omega)) ?_
    refine us_goto dRow_last_30 ?_
    try (rw [show xs.getLastD (-1) = xs.getD (xs.length - 1) 0 by rw [List.getLastD_eq_getLast?, List.getLast?_eq_getElem?, List.getD_eq_getElem?_getD, List.getElem?_eq_getElem (by omega)]; rfl] at hQ)
    refine us_ireturn dRow_last_34 rfl (Nat.le_of_ble_eq_true rfl) (Nat.le_of_ble_eq_true rfl) ?_
    exact hQ

theorem c_Row_removeLast {h : uHp} {r L : Nat} {xs : List Int} {Q : uPs} (R : uRow h r L xs) (hQ : ∀ h' : uHp, uRow h' r L xs.dropLast → uSm r (r + 2) h h' → Q none h') : uW mRow_removeLast 0 [.ref r] [] h 0 0 Q := by
  obtain ⟨hr, ⟨f, ha, hf⟩, hle, hL, hx⟩ := id R
  refine us_aload_n dRow_removeLast_0 rfl ?_
  refine us_getf 6 1 dRow_removeLast_1 kF_Row_21 hr rfl ?_
  refine us_if_le dRow_removeLast_4 (by omega) (fun c1 => ?_) (fun c1 => ?_)
  · skip
    refine us_return dRow_removeLast_17 rfl (Nat.le_of_ble_eq_true rfl) (Nat.le_of_ble_eq_true rfl) ?_
    first
      | (have e0 : xs = [] := List.length_eq_zero_iff.mp (by omega)
         refine hQ _ ?_ uSm.rf
         rw [e0]; rw [e0] at R; exact R)
      | (refine hQ _ ⟨?_, ⟨f, (u_set_ne (by omega)).trans ha, fun j hj => ?_⟩, by rw [List.length_dropLast]; omega, hL, fun y hy => hx y (List.dropLast_subset _ hy)⟩ (uSm.set0 (by omega) (by omega))
         · rw [u_set_eq, List.length_dropLast, show ((xs.length - 1 : Nat) : Int) = (xs.length : Int) - 1 by omega]; rfl
         · rw [List.length_dropLast] at hj
           rw [hf j (by omega), List.getD_eq_getElem?_getD, List.getD_eq_getElem?_getD, List.getElem?_dropLast, if_pos (by omega)])
  · skip
    refine us_aload_n dRow_removeLast_7 rfl ?_
    refine us_dup dRow_removeLast_8 rfl ?_
    refine us_getf 6 1 dRow_removeLast_9 kF_Row_21 hr rfl ?_
    refine us_iconst dRow_removeLast_12 ?_
    refine us_isub dRow_removeLast_13 ?_
    refine us_putf 6 1 dRow_removeLast_14 kP_Row_21 hr rfl rfl ?_
    refine us_return dRow_removeLast_17 rfl (Nat.le_of_ble_eq_true rfl) (Nat.le_of_ble_eq_true rfl) ?_
    first
      | (have e0 : xs = [] := List.length_eq_zero_iff.mp (by omega)
         refine hQ _ ?_ uSm.rf
         rw [e0]; rw [e0] at R; exact R)
      | (refine hQ _ ⟨?_, ⟨f, (u_set_ne (by omega)).trans ha, fun j hj => ?_⟩, by rw [List.length_dropLast]; omega, hL, fun y hy => hx y (List.dropLast_subset _ hy)⟩ (uSm.set0 (by omega) (by omega))
         · rw [u_set_eq, List.length_dropLast, show ((xs.length - 1 : Nat) : Int) = (xs.length : Int) - 1 by omega]; rfl
         · rw [List.length_dropLast] at hj
           rw [hf j (by omega), List.getD_eq_getElem?_getD, List.getD_eq_getElem?_getD, List.getElem?_dropLast, if_pos (by omega)])

theorem pofI_drop {xs : List Int} {x : Int} {j : Nat} (hj : j < xs.length) : pofI (xs.drop j) x j = if xs.getD j 0 = x then (j : Int) else pofI (xs.drop (j + 1)) x (j + 1) := by
  rw [List.drop_eq_getElem_cons hj, List.getD_eq_getElem?_getD, List.getElem?_eq_getElem hj]
  rfl
theorem cnt_take {xs : List Int} {x : Int} {j : Nat} (hj : j < xs.length) : (xs.take (j + 1)).count x = (xs.take j).count x + if xs.getD j 0 = x then 1 else 0 := by
  rw [List.take_succ_eq_append_getElem hj, List.count_append, List.count_singleton, List.getD_eq_getElem?_getD, List.getElem?_eq_getElem hj]
  simp only [Option.getD_some, beq_iff_eq]
theorem c_Row_placeOf_2 {h : uHp} {r L : Nat} {xs : List Int} {x : Int} {Q : uPs} (R : uRow h r L xs) (hxx : -2147483648 ≤ x ∧ x ≤ 2147483647) : ∀ (n j : Nat), xs.length + 1 ≤ j + n → j ≤ xs.length → Q (some (ui (pofI (xs.drop j) x j))) h → uW mRow_placeOf 2 [.ref r, ui x, ui (j : Int)] [] h 0 0 Q := by
  obtain ⟨hr, ⟨f, ha, hf⟩, hle, hL, hx⟩ := id R
  intro n
  induction n with
  | zero => intro j h1 h2; omega
  | succ n ih =>
    intro j h1 h2 hQ
    have ih := fun (j' : Nat) (a : xs.length + 1 ≤ j' + n ∧ j' ≤ xs.length) (b : Q (some (ui (pofI (xs.drop j') x j'))) h) => ih j' a.1 a.2 b
    refine us_iload_n dRow_placeOf_2 rfl ?_
    refine us_aload_n dRow_placeOf_3 rfl ?_
    refine us_getf 6 1 dRow_placeOf_4 kF_Row_21 hr rfl ?_
    refine us_icmp_ge dRow_placeOf_7 (by omega) (fun c1 => ?_) (fun c1 => ?_)
    · skip
      refine us_iconst dRow_placeOf_37 ?_
      refine us_ireturn dRow_placeOf_38 rfl (Nat.le_of_ble_eq_true rfl) (Nat.le_of_ble_eq_true rfl) ?_
      rw [List.drop_eq_nil_of_le (by omega)] at hQ; exact hQ
    · skip
      refine us_iload_n dRow_placeOf_10 rfl ?_
      refine us_aload_n dRow_placeOf_11 rfl ?_
      refine us_getf 6 0 dRow_placeOf_12 kF_Row_15 hr rfl ?_
      refine us_alen dRow_placeOf_15 ha ?_
      refine us_icmp_ge dRow_placeOf_16 (by omega) (fun c2 => ?_) (fun c2 => ?_)
      · skip
        refine us_iconst dRow_placeOf_37 ?_
        refine us_ireturn dRow_placeOf_38 rfl (Nat.le_of_ble_eq_true rfl) (Nat.le_of_ble_eq_true rfl) ?_
        rw [List.drop_eq_nil_of_le (by omega)] at hQ; exact hQ
      · skip
        refine us_aload_n dRow_placeOf_19 rfl ?_
        refine us_getf 6 0 dRow_placeOf_20 kF_Row_15 hr rfl ?_
        refine us_iload_n dRow_placeOf_23 rfl ?_
        refine us_iald j dRow_placeOf_24 ha rfl (by omega) (by omega) (hf j (by omega)) ?_
        refine us_iload_n dRow_placeOf_25 rfl ?_
        refine us_icmp_ne dRow_placeOf_26 (by have := R.rng j; omega) (fun c3 => ?_) (fun c3 => ?_)
        · skip
          refine us_iinc_2 dRow_placeOf_31 rfl (Nat.le_of_ble_eq_true rfl) ?_
          refine us_goto dRow_placeOf_34 ?_
          rw [pofI_drop (by omega), if_neg (by assumption)] at hQ
          exact ih (j + 1) (by omega) hQ
        · skip
          refine us_iload_n dRow_placeOf_29 rfl ?_
          refine us_ireturn dRow_placeOf_30 rfl (Nat.le_of_ble_eq_true rfl) (Nat.le_of_ble_eq_true rfl) ?_
          rw [pofI_drop (by omega), if_pos (by assumption)] at hQ; exact hQ

theorem c_Row_placeOf {h : uHp} {r L : Nat} {xs : List Int} {x : Int} {Q : uPs} (R : uRow h r L xs) (hxx : -2147483648 ≤ x ∧ x ≤ 2147483647) (hQ : Q (some (ui (plcI xs x))) h) : uW mRow_placeOf 0 [.ref r, ui x, .null] [] h 0 0 Q := by
  obtain ⟨hr, ⟨f, ha, hf⟩, hle, hL, hx⟩ := id R
  refine us_iconst dRow_placeOf_0 ?_
  refine us_istore_2 dRow_placeOf_1 rfl (Nat.le_of_ble_eq_true rfl) ?_
  exact c_Row_placeOf_2 R hxx (xs.length + 1) 0 (by omega) (by omega) hQ

theorem c_Row_countOf_4 {h : uHp} {r L : Nat} {xs : List Int} {x : Int} {Q : uPs} (R : uRow h r L xs) (hxx : -2147483648 ≤ x ∧ x ≤ 2147483647) (hQ : Q (some (ui ((xs.count x : Nat) : Int))) h) : ∀ (n j : Nat) (c : Int), xs.length + 1 ≤ j + n → j ≤ xs.length → c = (((xs.take j).count x : Nat) : Int) → uW mRow_countOf 4 [.ref r, ui x, ui c, ui (j : Int)] [] h 0 0 Q := by
  obtain ⟨hr, ⟨f, ha, hf⟩, hle, hL, hx⟩ := id R
  intro n
  induction n with
  | zero => intro j c h1 h2; omega
  | succ n ih =>
    intro j c h1 h2 hc
    have ih := fun (j' : Nat) (a : xs.length + 1 ≤ j' + n ∧ j' ≤ xs.length) {c' : Int} (b : c' = (((xs.take j').count x : Nat) : Int)) => ih j' c' a.1 a.2 b
    refine us_iload_n dRow_countOf_4 rfl ?_
    refine us_aload_n dRow_countOf_5 rfl ?_
    refine us_getf 6 1 dRow_countOf_6 kF_Row_21 hr rfl ?_
    refine us_icmp_ge dRow_countOf_9 (by omega) (fun c1 => ?_) (fun c1 => ?_)
    · skip
      refine us_iload_n dRow_countOf_40 rfl ?_
      refine us_ireturn dRow_countOf_41 rfl (Nat.le_of_ble_eq_true rfl) (Nat.le_of_ble_eq_true rfl) ?_
      rw [List.take_of_length_le (by omega)] at hc; rw [hc] ; exact hQ
    · skip
      refine us_iload_n dRow_countOf_12 rfl ?_
      refine us_aload_n dRow_countOf_13 rfl ?_
      refine us_getf 6 0 dRow_countOf_14 kF_Row_15 hr rfl ?_
      refine us_alen dRow_countOf_17 ha ?_
      refine us_icmp_ge dRow_countOf_18 (by omega) (fun c2 => ?_) (fun c2 => ?_)
      · skip
        refine us_iload_n dRow_countOf_40 rfl ?_
        refine us_ireturn dRow_countOf_41 rfl (Nat.le_of_ble_eq_true rfl) (Nat.le_of_ble_eq_true rfl) ?_
        rw [List.take_of_length_le (by omega)] at hc; rw [hc] ; exact hQ
      · skip
        refine us_aload_n dRow_countOf_21 rfl ?_
        refine us_getf 6 0 dRow_countOf_22 kF_Row_15 hr rfl ?_
        refine us_iload_n dRow_countOf_25 rfl ?_
        refine us_iald j dRow_countOf_26 ha rfl (by omega) (by omega) (hf j (by omega)) ?_
        refine us_iload_n dRow_countOf_27 rfl ?_
        refine us_icmp_ne dRow_countOf_28 (by have := R.rng j; omega) (fun c3 => ?_) (fun c3 => ?_)
        · skip
          refine us_iinc_3 dRow_countOf_34 rfl (Nat.le_of_ble_eq_true rfl) ?_
          refine us_goto dRow_countOf_37 ?_
          refine ih (j + 1) (by omega) (by rw [cnt_take (by omega)]; split <;> omega)
        · skip
          refine us_iinc_2 dRow_countOf_31 rfl (Nat.le_of_ble_eq_true rfl) ?_
          refine us_iinc_3 dRow_countOf_34 rfl (Nat.le_of_ble_eq_true rfl) ?_
          refine us_goto dRow_countOf_37 ?_
          refine ih (j + 1) (by omega) (by rw [cnt_take (by omega)]; split <;> omega)

theorem c_Row_countOf {h : uHp} {r L : Nat} {xs : List Int} {x : Int} {Q : uPs} (R : uRow h r L xs) (hxx : -2147483648 ≤ x ∧ x ≤ 2147483647) (hQ : Q (some (ui ((xs.count x : Nat) : Int))) h) : uW mRow_countOf 0 [.ref r, ui x, .null, .null] [] h 0 0 Q := by
  obtain ⟨hr, ⟨f, ha, hf⟩, hle, hL, hx⟩ := id R
  refine us_iconst dRow_countOf_0 ?_
  refine us_istore_2 dRow_countOf_1 rfl (Nat.le_of_ble_eq_true rfl) ?_
  refine us_iconst dRow_countOf_2 ?_
  refine us_istore_3 dRow_countOf_3 rfl (Nat.le_of_ble_eq_true rfl) ?_
  exact c_Row_countOf_4 R hxx hQ (xs.length + 1) 0 0 (by omega) (by omega) (by simp)

theorem c_Row_fill_11 {h0 : uHp} {r L : Nat} {x : Int} {Q : uPs} (hL : L < 1000) (hxx : -1000000 ≤ x ∧ x ≤ 1000000) (hQ : ∀ h' : uHp, uRow h' r L (List.replicate L x) → uSm r (r + 2) h0 h' → Q none h') : ∀ (n j : Nat) (h : uHp) (f : Nat → Value), L + 1 ≤ j + n ∧ j ≤ L → h.2 r = some (.inl (6, [.ref (r + 1), ui (L : Int)])) → h.2 (r + 1) = some (.inr (0, L, f)) → (∀ q, q < j → f q = ui x) → uSm r (r + 2) h0 h → uW mRow_fill 11 [.ref r, ui x, ui (j : Int)] [] h 0 0 Q := by
  intro n
  induction n with
  | zero => intro j h f h1; omega
  | succ n ih =>
    intro j h f h1 hr ha hf hs
    refine us_iload_n dRow_fill_11 rfl ?_
    refine us_aload_n dRow_fill_12 rfl ?_
    refine us_getf 6 0 dRow_fill_13 kF_Row_15 hr rfl ?_
    refine us_alen dRow_fill_16 ha ?_
    refine us_icmp_ge dRow_fill_17 (by omega) (fun c1 => ?_) (fun c1 => ?_)
    · skip
      refine us_return dRow_fill_33 rfl (Nat.le_of_ble_eq_true rfl) (Nat.le_of_ble_eq_true rfl) ?_
      refine hQ _ ⟨by rw [List.length_replicate]; exact hr, ⟨f, ha, fun q hq => ?_⟩, by simp, hL, fun y hy => ?_⟩ hs
      · rw [List.length_replicate] at hq; rw [hf q (by omega), List.getD_eq_getElem?_getD, List.getElem?_replicate, if_pos hq]; rfl
      · rw [List.eq_of_mem_replicate hy]; exact hxx
    · skip
      refine us_aload_n dRow_fill_20 rfl ?_
      refine us_getf 6 0 dRow_fill_21 kF_Row_15 hr rfl ?_
      refine us_iload_n dRow_fill_24 rfl ?_
      refine us_iload_n dRow_fill_25 rfl ?_
      refine us_iast j dRow_fill_26 ha rfl (by omega) (by omega) ?_
      refine us_iinc_2 dRow_fill_27 rfl (Nat.le_of_ble_eq_true rfl) ?_
      refine us_goto dRow_fill_30 ?_
      refine ih (j + 1) _ _ ⟨by omega, by omega⟩ ((u_set_ne (by omega)).trans hr) (u_set_eq _ _ _) (fun q hq => ?_) (hs.set (by omega) (by omega))
      unfold updV
      by_cases hqj : q = j
      · rw [if_pos hqj]
      · rw [if_neg hqj]; exact hf q (by omega)

theorem c_Row_fill {h : uHp} {r L : Nat} {xs : List Int} {x : Int} {Q : uPs} (R : uRow h r L xs) (hxx : -1000000 ≤ x ∧ x ≤ 1000000) (hQ : ∀ h' : uHp, uRow h' r L (List.replicate L x) → uSm r (r + 2) h h' → Q none h') : uW mRow_fill 0 [.ref r, ui x, .null] [] h 0 0 Q := by
  obtain ⟨hr, ⟨f, ha, hf⟩, hle, hL, hx⟩ := id R
  refine us_aload_n dRow_fill_0 rfl ?_
  refine us_aload_n dRow_fill_1 rfl ?_
  refine us_getf 6 0 dRow_fill_2 kF_Row_15 hr rfl ?_
  refine us_alen dRow_fill_5 ha ?_
  refine us_putf 6 1 dRow_fill_6 kP_Row_21 hr rfl rfl ?_
  refine us_iconst dRow_fill_9 ?_
  refine us_istore_2 dRow_fill_10 rfl (Nat.le_of_ble_eq_true rfl) ?_
  exact c_Row_fill_11 hL hxx hQ (L + 1) 0 _ f ⟨by omega, by omega⟩ (u_set_eq _ _ _) ((u_set_ne (by omega)).trans ha) (fun q hq => absurd hq (Nat.not_lt_zero q)) (uSm.set0 (by omega) (by omega))

theorem c_Row_become_32 {h0 : uHp} {r q L : Nat} {ys : List Int} {f2 : Nat → Value} {Q : uPs} (hd : r + 2 ≤ q ∨ q + 2 ≤ r) (hL : L < 1000) (hle : ys.length ≤ L) (hx : ∀ x ∈ ys, -1000000 ≤ x ∧ x ≤ 1000000) (hf2 : ∀ j, j < ys.length → f2 j = ui (ys.getD j 0)) (hQ : ∀ h' : uHp, uRow h' r L ys → uSm r (r + 2) h0 h' → Q none h') : ∀ (n j : Nat) (h : uHp) (f : Nat → Value), ys.length + 1 ≤ j + n ∧ j ≤ ys.length → h.2 r = some (.inl (6, [.ref (r + 1), ui (ys.length : Int)])) → h.2 (r + 1) = some (.inr (0, L, f)) → (∀ i, i < j → f i = ui (ys.getD i 0)) → h.2 q = some (.inl (6, [.ref (q + 1), ui (ys.length : Int)])) → h.2 (q + 1) = some (.inr (0, L, f2)) → uSm r (r + 2) h0 h → uW mRow_become 32 [.ref r, .ref q, ui (L : Int), ui (j : Int)] [] h 0 0 Q := by
  intro n
  induction n with
  | zero => intro j h f h1; omega
  | succ n ih =>
    intro j h f h1 hr ha hf hr2 ha2 hs
    refine us_iload_n dRow_become_32 rfl ?_
    refine us_aload_n dRow_become_33 rfl ?_
    refine us_getf 6 1 dRow_become_34 kF_Row_21 hr rfl ?_
    refine us_icmp_ge dRow_become_37 (by omega) (fun c1 => ?_) (fun c1 => ?_)
    · skip
      refine us_return dRow_become_63 rfl (Nat.le_of_ble_eq_true rfl) (Nat.le_of_ble_eq_true rfl) ?_
      refine hQ _ ⟨hr, ⟨f, ha, fun q hq => hf q (by omega)⟩, hle, hL, hx⟩ hs
    · skip
      refine us_iload_n dRow_become_40 rfl ?_
      refine us_iload_n dRow_become_41 rfl ?_
      refine us_icmp_ge dRow_become_42 (by omega) (fun c2 => ?_) (fun c2 => ?_)
      · skip
        refine us_return dRow_become_63 rfl (Nat.le_of_ble_eq_true rfl) (Nat.le_of_ble_eq_true rfl) ?_
        refine hQ _ ⟨hr, ⟨f, ha, fun q hq => hf q (by omega)⟩, hle, hL, hx⟩ hs
      · skip
        refine us_aload_n dRow_become_45 rfl ?_
        refine us_getf 6 0 dRow_become_46 kF_Row_15 hr rfl ?_
        refine us_iload_n dRow_become_49 rfl ?_
        refine us_aload_n dRow_become_50 rfl ?_
        refine us_getf 6 0 dRow_become_51 kF_Row_15 hr2 rfl ?_
        refine us_iload_n dRow_become_54 rfl ?_
        refine us_iald j dRow_become_55 ha2 rfl (by omega) (by omega) (hf2 j (by omega)) ?_
        refine us_iast j dRow_become_56 ha rfl (by omega) (by omega) ?_
        refine us_iinc_3 dRow_become_57 rfl (Nat.le_of_ble_eq_true rfl) ?_
        refine us_goto dRow_become_60 ?_
        refine ih (j + 1) _ _ ⟨by omega, by omega⟩ ((u_set_ne (by omega)).trans hr) (u_set_eq _ _ _) (fun q hq => ?_) ((u_set_ne (by omega)).trans hr2) ((u_set_ne (by omega)).trans ha2) (hs.set (by omega) (by omega))
        unfold updV
        by_cases hqj : q = j
        · rw [if_pos hqj, hqj]
        · rw [if_neg hqj]; exact hf q (by omega)

theorem c_Row_become {h : uHp} {r q L : Nat} {xs ys : List Int} {Q : uPs} (R : uRow h r L xs) (R2 : uRow h q L ys) (hd : r + 2 ≤ q ∨ q + 2 ≤ r) (hQ : ∀ h' : uHp, uRow h' r L ys → uSm r (r + 2) h h' → Q none h') : uW mRow_become 0 [.ref r, .ref q, .null, .null] [] h 0 0 Q := by
  obtain ⟨hr, ⟨f, ha, hf⟩, hle, hL, hx⟩ := id R
  obtain ⟨hr2, ⟨f2, ha2, hf2⟩, hle2, -, hx2⟩ := id R2
  refine us_aload_n dRow_become_0 rfl ?_
  refine us_getf 6 0 dRow_become_1 kF_Row_15 hr rfl ?_
  refine us_alen dRow_become_4 ha ?_
  refine us_aload_n dRow_become_5 rfl ?_
  refine us_getf 6 0 dRow_become_6 kF_Row_15 hr2 rfl ?_
  refine us_alen dRow_become_9 ha2 ?_
  refine us_min dRow_become_10 kS_Row_25 w_mins w_mi w_minc (by decide) (Nat.le_of_ble_eq_true rfl) (Nat.le_of_ble_eq_true rfl) (Nat.le_of_ble_eq_true rfl) (by omega) ?_
  rw [if_neg (show ¬ ((L : Int) < (L : Int)) by omega)]
  refine us_istore_2 dRow_become_13 rfl (Nat.le_of_ble_eq_true rfl) ?_
  refine us_aload_n dRow_become_14 rfl ?_
  refine us_aload_n dRow_become_15 rfl ?_
  refine us_getf 6 1 dRow_become_16 kF_Row_21 hr2 rfl ?_
  refine us_iload_n dRow_become_19 rfl ?_
  refine us_min dRow_become_20 kS_Row_25 w_mins w_mi w_minc (by decide) (Nat.le_of_ble_eq_true rfl) (Nat.le_of_ble_eq_true rfl) (Nat.le_of_ble_eq_true rfl) (by omega) ?_
  rw [if_neg (show ¬ ((L : Int) < (ys.length : Int)) by omega)]
  refine us_iconst dRow_become_23 ?_
  refine us_max dRow_become_24 kS_Row_9 w_maxs w_mi w_maxc (by decide) (Nat.le_of_ble_eq_true rfl) (Nat.le_of_ble_eq_true rfl) (Nat.le_of_ble_eq_true rfl) (by omega) ?_
  rw [if_neg (show ¬ ((ys.length : Int) < 0) by omega)]
  refine us_putf 6 1 dRow_become_27 kP_Row_21 hr rfl rfl ?_
  refine us_iconst dRow_become_30 ?_
  refine us_istore_3 dRow_become_31 rfl (Nat.le_of_ble_eq_true rfl) ?_
  exact c_Row_become_32 hd hL hle2 hx2 hf2 hQ (ys.length + 1) 0 _ f ⟨by omega, by omega⟩ (u_set_eq _ _ _) ((u_set_ne (by omega)).trans ha) (fun q hq => absurd hq (Nat.not_lt_zero q)) ((u_set_ne (by omega)).trans hr2) ((u_set_ne (by omega)).trans ha2) (uSm.set0 (by omega) (by omega))
end
section
/-! whole numbers by way of Int32 -/
def andI (x y : Int) : Int := (Int32.ofInt x &&& Int32.ofInt y).toInt
def orI (x y : Int) : Int := (Int32.ofInt x ||| Int32.ofInt y).toInt
def xorI (x y : Int) : Int := (Int32.ofInt x ^^^ Int32.ofInt y).toInt
def shlI (x y : Int) : Int := (Int32.ofInt x <<< (Int32.ofInt y &&& 31)).toInt
def shrI (x y : Int) : Int := (Int32.ofInt x >>> (Int32.ofInt y &&& 31)).toInt
def divI (x y : Int) : Int := (Int32.ofInt x / Int32.ofInt y).toInt
def remI (x y : Int) : Int := (Int32.ofInt x - Int32.ofInt x / Int32.ofInt y * Int32.ofInt y).toInt
theorem i32_rng (x : Int32) : -2147483648 ≤ x.toInt ∧ x.toInt ≤ 2147483647 := by
  have h1 := x.le_toInt
  have h2 := x.toInt_lt
  omega
section UI
variable {M : uM} {pc np : Nat} {l st : List Value} {h : uHp} {k n : Nat} {Q : uPs} {x y : Int}
theorem us_iandI (hd : uD M.cc pc .iand 1 np) (K : uW M np l (ui (andI x y) :: st) h k n Q) : uW M pc l (ui y :: ui x :: st) h k n Q := us_iand hd (u_topR (Int32.ofInt_toInt _).symm K)
theorem us_iorI (hd : uD M.cc pc .ior 1 np) (K : uW M np l (ui (orI x y) :: st) h k n Q) : uW M pc l (ui y :: ui x :: st) h k n Q := us_ior hd (u_topR (Int32.ofInt_toInt _).symm K)
theorem us_ixorI (hd : uD M.cc pc .ixor 1 np) (K : uW M np l (ui (xorI x y) :: st) h k n Q) : uW M pc l (ui y :: ui x :: st) h k n Q := us_ixor hd (u_topR (Int32.ofInt_toInt _).symm K)
theorem us_ishlI (hd : uD M.cc pc .ishl 1 np) (K : uW M np l (ui (shlI x y) :: st) h k n Q) : uW M pc l (ui y :: ui x :: st) h k n Q := us_ishl hd (u_topR (Int32.ofInt_toInt _).symm K)
theorem us_ishrI (hd : uD M.cc pc .ishr 1 np) (K : uW M np l (ui (shrI x y) :: st) h k n Q) : uW M pc l (ui y :: ui x :: st) h k n Q := us_ishr hd (u_topR (Int32.ofInt_toInt _).symm K)
theorem us_idivI (hd : uD M.cc pc .idiv 1 np) (hne : ¬ Int32.ofInt y = 0) (K : uW M np l (ui (divI x y) :: st) h k n Q) : uW M pc l (ui y :: ui x :: st) h k n Q := us_idiv hd hne (u_topR (Int32.ofInt_toInt _).symm K)
theorem us_iremI (hd : uD M.cc pc .irem 1 np) (hne : ¬ Int32.ofInt y = 0) (K : uW M np l (ui (remI x y) :: st) h k n Q) : uW M pc l (ui y :: ui x :: st) h k n Q := us_irem hd hne (u_topR (Int32.ofInt_toInt _).symm K)
def lcmpI (x y : Int) : Int := if y < x then 1 else if x = y then 0 else -1
theorem lcmpI_rng (x y : Int) : -2147483648 ≤ lcmpI x y ∧ lcmpI x y ≤ 2147483647 := by
  unfold lcmpI
  split
  · omega
  · split <;> omega
theorem lcmpI_0 {x y : Int} : lcmpI x y = 0 ↔ x = y := by
  unfold lcmpI
  by_cases h1 : y < x
  · rw [if_pos h1]; omega
  · rw [if_neg h1]
    by_cases h2 : x = y
    · rw [if_pos h2]; exact ⟨fun _ => h2, fun _ => rfl⟩
    · rw [if_neg h2]; omega
theorem us_lcmpI (hd : uD M.cc pc .lcmp 1 np) (r : -9223372036854775808 ≤ x ∧ x ≤ 9223372036854775807 ∧ -9223372036854775808 ≤ y ∧ y ≤ 9223372036854775807) (K : uW M np l (ui (lcmpI x y) :: st) h k n Q) : uW M pc l (uj y :: uj x :: st) h k n Q := by
  refine us_lcmp hd (u_topR ?_ K)
  have e1 : (Int64.ofInt x > Int64.ofInt y) ↔ y < x := by
    show Int64.ofInt y < Int64.ofInt x ↔ _
    rw [Int64.lt_iff_toInt_lt, u_rngL r.1 r.2.1, u_rngL r.2.2.1 r.2.2.2]
  have e2 : (Int64.ofInt x = Int64.ofInt y) ↔ x = y := by
    rw [← Int64.toInt_inj, u_rngL r.1 r.2.1, u_rngL r.2.2.1 r.2.2.2]
  unfold lg_cmp lcmpI
  by_cases h1 : y < x
  · rw [if_pos (e1.mpr h1), if_pos h1]; rfl
  · rw [if_neg (fun q => h1 (e1.mp q)), if_neg h1]
    by_cases h2 : x = y
    · rw [if_pos (e2.mpr h2), if_pos h2]; rfl
    · rw [if_neg (fun q => h2 (e2.mp q)), if_neg h2]; rfl
end UI
/-! FrontList: a list without doubles, the latest at the front -/
def uFrl (h : uHp) (r L : Nat) (xs : List Int) : Prop := h.2 r = some (.inl (1, [.ref (r + 1), ui xs.length])) ∧ (∃ f : Nat → Value, h.2 (r + 1) = some (.inr (1, L, f)) ∧ ∀ j, j < xs.length → f j = uj (xs.getD j 0)) ∧ xs.length ≤ L ∧ L < 1000 ∧ ∀ x ∈ xs, -1000000000000 ≤ x ∧ x ≤ 1000000000000
theorem uFrl.kept {h h' : uHp} {r L lo hi : Nat} {xs : List Int} (R : uFrl h r L xs) (k : uSm lo hi h h') (d : r + 2 ≤ lo ∨ hi ≤ r) : uFrl h' r L xs := by
  obtain ⟨h1, ⟨f, h2, h3⟩, h4⟩ := R
  exact ⟨k.at h1 (by omega), ⟨f, k.at h2 (by omega), h3⟩, h4⟩
theorem uFrl.rng {h : uHp} {r L : Nat} {xs : List Int} (R : uFrl h r L xs) (j : Nat) : -1000000000000 ≤ xs.getD j 0 ∧ xs.getD j 0 ≤ 1000000000000 := by
  by_cases hj : j < xs.length
  · rw [List.getD_eq_getElem?_getD, List.getElem?_eq_getElem hj]
    exact R.2.2.2.2 _ (List.getElem_mem hj)
  · rw [List.getD_eq_getElem?_getD, List.getElem?_eq_none (by omega)]
    decide
theorem pofI_idx : ∀ (xs : List Int) (x : Int) (k : Nat), pofI xs x k = if xs.idxOf x < xs.length then ((k + xs.idxOf x : Nat) : Int) else -1
  | [], x, k => by simp [pofI]
  | y :: ys, x, k => by
    unfold pofI
    by_cases hy : y = x
    · rw [if_pos hy, List.idxOf_cons]
      simp [hy]
    · rw [if_neg hy, pofI_idx ys x (k + 1), List.idxOf_cons]
      have e : (y == x) = false := by simp [hy]
      simp only [e, cond_false, List.length_cons]
      by_cases hl : ys.idxOf x < ys.length
      · rw [if_pos hl, if_pos (by omega)]
        congr 1
        omega
      · rw [if_neg hl, if_neg (by omega)]
theorem plcI_idx (xs : List Int) (x : Int) : plcI xs x = if xs.idxOf x < xs.length then (xs.idxOf x : Int) else -1 := by
  have := pofI_idx xs x 0
  rw [Nat.zero_add] at this
  exact this
/-- meet: the item comes to the front -/
def mfI (L : Nat) (xs : List Int) (x : Int) : List Int := if xs.idxOf x < L then x :: xs.eraseIdx (xs.idxOf x) else xs
theorem c_Frl_size {h : uHp} {r L : Nat} {xs : List Int} {Q : uPs} (R : uFrl h r L xs) (hQ : Q (some (ui xs.length)) h) : uW mFrl_size 0 [.ref r] [] h 0 0 Q := by
  obtain ⟨hr, ⟨f, ha, hf⟩, hle, hL, hx⟩ := id R
  refine us_aload_n dFrl_size_0 rfl ?_
  refine us_getf 1 1 dFrl_size_1 kF_Frl_21 hr rfl ?_
  refine us_ireturn dFrl_size_4 rfl (Nat.le_of_ble_eq_true rfl) (Nat.le_of_ble_eq_true rfl) ?_
  exact hQ

theorem c_Frl_clear {h : uHp} {r L : Nat} {xs : List Int} {Q : uPs} (R : uFrl h r L xs) (hQ : ∀ h' : uHp, uFrl h' r L [] → uSm r (r + 2) h h' → Q none h') : uW mFrl_clear 0 [.ref r] [] h 0 0 Q := by
  obtain ⟨hr, ⟨f, ha, hf⟩, hle, hL, hx⟩ := id R
  refine us_aload_n dFrl_clear_0 rfl ?_
  refine us_iconst dFrl_clear_1 ?_
  refine us_putf 1 1 dFrl_clear_2 kP_Frl_21 hr rfl rfl ?_
  refine us_return dFrl_clear_5 rfl (Nat.le_of_ble_eq_true rfl) (Nat.le_of_ble_eq_true rfl) ?_
  exact hQ _ ⟨u_set_eq _ _ _, ⟨f, (u_set_ne (by omega)).trans ha, fun j hj => absurd hj (by simp)⟩, Nat.zero_le _, hL, by simp⟩ (uSm.set0 (by omega) (by omega))

theorem c_Frl_at {h : uHp} {r L : Nat} {xs : List Int} {i : Int} {Q : uPs} (R : uFrl h r L xs) (hi : -2147483648 ≤ i ∧ i ≤ 2147483647) (hQ : Q (some (uj (ratI xs i))) h) : uW mFrl_at 0 [.ref r, ui i] [] h 0 0 Q := by
  obtain ⟨hr, ⟨f, ha, hf⟩, hle, hL, hx⟩ := id R
  refine us_iload_n dFrl_at_0 rfl ?_
  refine us_if_lt dFrl_at_1 (by omega) (fun c1 => ?_) (fun c1 => ?_)
  · skip
    have e0 : ratI xs i = 0 := by
      by_cases hi0 : 0 ≤ i
      · rw [show ratI xs i = xs.getD i.toNat 0 from if_pos hi0, List.getD_eq_getElem?_getD, List.getElem?_eq_none (by omega)]; rfl
      · exact if_neg hi0
    rw [e0] at hQ
    refine us_lconst dFrl_at_30 ?_
    try (rw [show ratI xs i = xs.getD i.toNat 0 from if_pos (by omega)] at hQ)
    refine us_lreturn dFrl_at_31 rfl (Nat.le_of_ble_eq_true rfl) (Nat.le_of_ble_eq_true rfl) ?_
    exact hQ
  · skip
    refine us_iload_n dFrl_at_4 rfl ?_
    refine us_aload_n dFrl_at_5 rfl ?_
    refine us_getf 1 1 dFrl_at_6 kF_Frl_21 hr rfl ?_
    refine us_icmp_ge dFrl_at_9 (by omega) (fun c2 => ?_) (fun c2 => ?_)
    · skip
      have e0 : ratI xs i = 0 := by
        by_cases hi0 : 0 ≤ i
        · rw [show ratI xs i = xs.getD i.toNat 0 from if_pos hi0, List.getD_eq_getElem?_getD, List.getElem?_eq_none (by omega)]; rfl
        · exact if_neg hi0
      rw [e0] at hQ
      refine us_lconst dFrl_at_30 ?_
      try (rw [show ratI xs i = xs.getD i.toNat 0 from if_pos (by omega)] at hQ)
      refine us_lreturn dFrl_at_31 rfl (Nat.le_of_ble_eq_true rfl) (Nat.le_of_ble_eq_true rfl) ?_
      exact hQ
    · skip
      refine us_iload_n dFrl_at_12 rfl ?_
      refine us_aload_n dFrl_at_13 rfl ?_
      refine us_getf 1 0 dFrl_at_14 kF_Frl_15 hr rfl ?_
      refine us_alen dFrl_at_17 ha ?_
      refine us_icmp_ge dFrl_at_18 (by omega) (fun c3 => ?_) (fun c3 => ?_)
      · skip
        have e0 : ratI xs i = 0 := by
          by_cases hi0 : 0 ≤ i
          · rw [show ratI xs i = xs.getD i.toNat 0 from if_pos hi0, List.getD_eq_getElem?_getD, List.getElem?_eq_none (by omega)]; rfl
          · exact if_neg hi0
        rw [e0] at hQ
        refine us_lconst dFrl_at_30 ?_
        try (rw [show ratI xs i = xs.getD i.toNat 0 from if_pos (by omega)] at hQ)
        refine us_lreturn dFrl_at_31 rfl (Nat.le_of_ble_eq_true rfl) (Nat.le_of_ble_eq_true rfl) ?_
        exact hQ
      · skip
        refine us_aload_n dFrl_at_21 rfl ?_
        refine us_getf 1 0 dFrl_at_22 kF_Frl_15 hr rfl ?_
        refine us_iload_n dFrl_at_25 rfl ?_
        refine us_lald i.toNat dFrl_at_26 ha (by omega) (by omega) (by omega) (hf i.toNat (by omega)) ?_
        refine us_goto dFrl_at_27 ?_
        try (rw [show ratI xs i = xs.getD i.toNat 0 from if_pos (by omega)] at hQ)
        refine us_lreturn dFrl_at_31 rfl (Nat.le_of_ble_eq_true rfl) (Nat.le_of_ble_eq_true rfl) ?_
        exact hQ

theorem c_Frl_placeOf_2 {h : uHp} {r L : Nat} {xs : List Int} {x : Int} {Q : uPs} (R : uFrl h r L xs) (hxx : -1000000000000 ≤ x ∧ x ≤ 1000000000000) : ∀ (n j : Nat), xs.length + 1 ≤ j + n ∧ j ≤ xs.length → Q (some (ui (pofI (xs.drop j) x j))) h → uW mFrl_placeOf 2 [.ref r, uj x, .null, ui (j : Int)] [] h 0 0 Q := by
  obtain ⟨hr, ⟨f, ha, hf⟩, hle, hL, hx⟩ := id R
  intro n
  induction n with
  | zero => intro j h1; omega
  | succ n ih =>
    intro j h1 hQ
    refine us_iload_n dFrl_placeOf_2 rfl ?_
    refine us_aload_n dFrl_placeOf_3 rfl ?_
    refine us_getf 1 1 dFrl_placeOf_4 kF_Frl_21 hr rfl ?_
    refine us_icmp_ge dFrl_placeOf_7 (by omega) (fun c1 => ?_) (fun c1 => ?_)
    · skip
      refine us_iconst dFrl_placeOf_38 ?_
      refine us_ireturn dFrl_placeOf_39 rfl (Nat.le_of_ble_eq_true rfl) (Nat.le_of_ble_eq_true rfl) ?_
      rw [List.drop_eq_nil_of_le (by omega)] at hQ; exact hQ
    · skip
      refine us_iload_n dFrl_placeOf_10 rfl ?_
      refine us_aload_n dFrl_placeOf_11 rfl ?_
      refine us_getf 1 0 dFrl_placeOf_12 kF_Frl_15 hr rfl ?_
      refine us_alen dFrl_placeOf_15 ha ?_
      refine us_icmp_ge dFrl_placeOf_16 (by omega) (fun c2 => ?_) (fun c2 => ?_)
      · skip
        refine us_iconst dFrl_placeOf_38 ?_
        refine us_ireturn dFrl_placeOf_39 rfl (Nat.le_of_ble_eq_true rfl) (Nat.le_of_ble_eq_true rfl) ?_
        rw [List.drop_eq_nil_of_le (by omega)] at hQ; exact hQ
      · skip
        refine us_aload_n dFrl_placeOf_19 rfl ?_
        refine us_getf 1 0 dFrl_placeOf_20 kF_Frl_15 hr rfl ?_
        refine us_iload_n dFrl_placeOf_23 rfl ?_
        refine us_lald j dFrl_placeOf_24 ha rfl (by omega) (by omega) (hf j (by omega)) ?_
        refine us_lload_n dFrl_placeOf_25 rfl ?_
        refine us_lcmpI dFrl_placeOf_26 (by have := R.rng j; omega) ?_
        refine us_if_ne dFrl_placeOf_27 (lcmpI_rng _ _) (fun c3 => ?_) (fun c3 => ?_)
        · skip
          refine us_iinc_3 dFrl_placeOf_32 rfl (Nat.le_of_ble_eq_true rfl) ?_
          refine us_goto dFrl_placeOf_35 ?_
          rw [pofI_drop (by omega), if_neg (fun q => absurd (lcmpI_0.mpr q) (by assumption))] at hQ
          exact ih (j + 1) ⟨by omega, by omega⟩ hQ
        · skip
          refine us_iload_n dFrl_placeOf_30 rfl ?_
          refine us_ireturn dFrl_placeOf_31 rfl (Nat.le_of_ble_eq_true rfl) (Nat.le_of_ble_eq_true rfl) ?_
          rw [pofI_drop (by omega), if_pos (lcmpI_0.mp (by assumption))] at hQ; exact hQ

theorem c_Frl_placeOf {h : uHp} {r L : Nat} {xs : List Int} {x : Int} {Q : uPs} (R : uFrl h r L xs) (hxx : -1000000000000 ≤ x ∧ x ≤ 1000000000000) (hQ : Q (some (ui (plcI xs x))) h) : uW mFrl_placeOf 0 [.ref r, uj x, .null, .null] [] h 0 0 Q := by
  obtain ⟨hr, ⟨f, ha, hf⟩, hle, hL, hx⟩ := id R
  refine us_iconst dFrl_placeOf_0 ?_
  refine us_istore_3 dFrl_placeOf_1 rfl (Nat.le_of_ble_eq_true rfl) ?_
  exact c_Frl_placeOf_2 R hxx (xs.length + 1) 0 ⟨by omega, by omega⟩ hQ

theorem c_Frl_meet_51 {h0 : uHp} {r L p s : Nat} {g : Nat → Value} {x : Int} {Q : uPs} (hp : p < L) (hL : L < 1000) (hg : ∀ q, q < p → ∃ z : Int64, g q = .long z) (hQ : ∀ (h' : uHp) (f : Nat → Value), h'.2 r = some (.inl (1, [.ref (r + 1), ui (s : Int)])) → h'.2 (r + 1) = some (.inr (1, L, f)) → (∀ q, f q = if q = 0 then uj x else if q ≤ p then g (q - 1) else g q) → uSm r (r + 2) h0 h' → Q none h') : ∀ (n b : Nat) (h : uHp) (f : Nat → Value), b + 1 ≤ n ∧ b ≤ p → h.2 r = some (.inl (1, [.ref (r + 1), ui (s : Int)])) → h.2 (r + 1) = some (.inr (1, L, f)) → (∀ q, f q = if b < q ∧ q ≤ p then g (q - 1) else g q) → uSm r (r + 2) h0 h → uW mFrl_meet 51 [.ref r, uj x, .null, ui (p : Int), ui (b : Int)] [] h 0 0 Q := by
  intro n
  induction n with
  | zero => intro b h f h1; omega
  | succ n ih =>
    intro b h f h1 hr ha hf hs
    refine us_iload dFrl_meet_51 rfl ?_
    refine us_if_le dFrl_meet_53 (by omega) (fun c1 => ?_) (fun c1 => ?_)
    · skip
      refine us_aload_n dFrl_meet_78 rfl ?_
      refine us_getf 1 0 dFrl_meet_79 kF_Frl_15 hr rfl ?_
      refine us_iconst dFrl_meet_82 ?_
      refine us_lload_n dFrl_meet_83 rfl ?_
      refine us_last 0 dFrl_meet_84 ha rfl (by omega) (by omega) ?_
      refine us_return dFrl_meet_85 rfl (Nat.le_of_ble_eq_true rfl) (Nat.le_of_ble_eq_true rfl) ?_
      refine hQ _ _ ((u_set_ne (by omega)).trans hr) (u_set_eq _ _ _) (fun q => ?_) (hs.set (by omega) (by omega))
      unfold updV
      by_cases hq0 : q = 0
      · rw [if_pos hq0, if_pos hq0]
      · rw [if_neg hq0, if_neg hq0, hf q]
        by_cases hc : q ≤ p
        · rw [if_pos hc, if_pos (by omega)]
        · rw [if_neg hc, if_neg (by omega)]
    · skip
      refine us_aload_n dFrl_meet_56 rfl ?_
      refine us_getf 1 0 dFrl_meet_57 kF_Frl_15 hr rfl ?_
      refine us_iload dFrl_meet_60 rfl ?_
      refine us_aload_n dFrl_meet_62 rfl ?_
      refine us_getf 1 0 dFrl_meet_63 kF_Frl_15 hr rfl ?_
      refine us_iload dFrl_meet_66 rfl ?_
      refine us_iconst dFrl_meet_68 ?_
      refine us_isub dFrl_meet_69 ?_
      refine us_lald (b - 1) dFrl_meet_70 ha (by omega) (by omega) (by omega) rfl ?_
      rw [hf (b - 1), if_neg (by omega)]
      obtain ⟨z, hz⟩ := hg (b - 1) (by omega)
      rw [hz]
      refine us_last b dFrl_meet_71 ha rfl (by omega) (by omega) ?_
      refine us_iinc_4 dFrl_meet_72 rfl (Nat.le_of_ble_eq_true rfl) ?_
      refine us_goto dFrl_meet_75 ?_
      have e1 : (b : Int) + -1 = ((b - 1 : Nat) : Int) := by omega
      rw [e1]
      refine ih (b - 1) _ _ ⟨by omega, by omega⟩ ((u_set_ne (by omega)).trans hr) (u_set_eq _ _ _) (fun q => ?_) (hs.set (by omega) (by omega))
      unfold updV
      by_cases hqb : q = b
      · rw [if_pos hqb, hqb, if_pos (by omega), hz]
      · rw [if_neg hqb, hf q]
        by_cases hc : b < q ∧ q ≤ p
        · rw [if_pos hc, if_pos (by omega)]
        · rw [if_neg hc, if_neg (by omega)]

theorem c_Frl_meet_30 {h : uHp} {r L p s s2 : Nat} {f : Nat → Value} {x : Int} {Q : uPs} (hr : h.2 r = some (.inl (1, [.ref (r + 1), ui (s : Int)]))) (ha : h.2 (r + 1) = some (.inr (1, L, f))) (hp : p < L) (hL : L < 1000) (hsL : s ≤ L) (hg : ∀ q, q < p → ∃ z : Int64, f q = .long z) (hss : s2 = if p = s then s + 1 else s)
  (hQ : ∀ (h' : uHp) (f' : Nat → Value), h'.2 r = some (.inl (1, [.ref (r + 1), ui (s2 : Int)])) → h'.2 (r + 1) = some (.inr (1, L, f')) → (∀ q, f' q = if q = 0 then uj x else if q ≤ p then f (q - 1) else f q) → uSm r (r + 2) h h' → Q none h') : uW mFrl_meet 30 [.ref r, uj x, .null, ui (p : Int), .null] [] h 0 0 Q := by
  refine us_iload_n dFrl_meet_30 rfl ?_
  refine us_aload_n dFrl_meet_31 rfl ?_
  refine us_getf 1 1 dFrl_meet_32 kF_Frl_21 hr rfl ?_
  refine us_icmp_ne dFrl_meet_35 (by omega) (fun c1 => ?_) (fun c1 => ?_)
  · skip
    refine us_iload_n dFrl_meet_48 rfl ?_
    refine us_istore_4 dFrl_meet_49 rfl (Nat.le_of_ble_eq_true rfl) ?_
    first
      | (have e2 : s2 = s + 1 := by rw [hss]; exact if_pos (by omega)
         rw [e2] at hQ
         exact c_Frl_meet_51 hp hL hg hQ (p + 1) p _ f ⟨Nat.le_refl _, Nat.le_refl _⟩ (u_set_eq _ _ _) ((u_set_ne (by omega)).trans ha) (fun q => by rw [if_neg (by omega)]) (uSm.set0 (by omega) (by omega)))
      | (have e2 : s2 = s := by rw [hss]; exact if_neg (by omega)
         rw [e2] at hQ
         exact c_Frl_meet_51 hp hL hg hQ (p + 1) p _ f ⟨Nat.le_refl _, Nat.le_refl _⟩ hr ha (fun q => by rw [if_neg (by omega)]) uSm.rf)
  · skip
    refine us_aload_n dFrl_meet_38 rfl ?_
    refine us_dup dFrl_meet_39 rfl ?_
    refine us_getf 1 1 dFrl_meet_40 kF_Frl_21 hr rfl ?_
    refine us_iconst dFrl_meet_43 ?_
    refine us_iadd dFrl_meet_44 ?_
    refine us_putf 1 1 dFrl_meet_45 kP_Frl_21 hr rfl rfl ?_
    refine us_iload_n dFrl_meet_48 rfl ?_
    refine us_istore_4 dFrl_meet_49 rfl (Nat.le_of_ble_eq_true rfl) ?_
    first
      | (have e2 : s2 = s + 1 := by rw [hss]; exact if_pos (by omega)
         rw [e2] at hQ
         exact c_Frl_meet_51 hp hL hg hQ (p + 1) p _ f ⟨Nat.le_refl _, Nat.le_refl _⟩ (u_set_eq _ _ _) ((u_set_ne (by omega)).trans ha) (fun q => by rw [if_neg (by omega)]) (uSm.set0 (by omega) (by omega)))
      | (have e2 : s2 = s := by rw [hss]; exact if_neg (by omega)
         rw [e2] at hQ
         exact c_Frl_meet_51 hp hL hg hQ (p + 1) p _ f ⟨Nat.le_refl _, Nat.le_refl _⟩ hr ha (fun q => by rw [if_neg (by omega)]) uSm.rf)

theorem getD_mf (xs : List Int) (x : Int) (p j : Nat) : (x :: xs.eraseIdx p).getD j 0 = if j = 0 then x else if j ≤ p then xs.getD (j - 1) 0 else xs.getD j 0 := by
  cases j with
  | zero => rfl
  | succ j =>
    rw [if_neg (by omega)]
    simp only [List.getD_eq_getElem?_getD, List.getElem?_cons_succ, List.getElem?_eraseIdx, Nat.add_sub_cancel]
    by_cases hj : j < p
    · rw [if_pos hj, if_pos (by omega)]
    · rw [if_neg hj, if_neg (by omega)]
theorem mfI_len {L : Nat} {xs : List Int} {x : Int} (h : xs.idxOf x < L) : (mfI L xs x).length = if xs.idxOf x = xs.length then xs.length + 1 else xs.length := by
  unfold mfI
  rw [if_pos h, List.length_cons, List.length_eraseIdx]
  have h1 : xs.idxOf x ≤ xs.length := List.idxOf_le_length
  by_cases h2 : xs.idxOf x = xs.length
  · rw [if_pos h2, if_neg (by omega)]
  · rw [if_neg h2, if_pos (by omega)]
    omega
theorem c_Frl_meet {h : uHp} {r L : Nat} {xs : List Int} {x : Int} {Q : uPs} (R : uFrl h r L xs) (hxx : -1000000000000 ≤ x ∧ x ≤ 1000000000000) (hQ : ∀ h' : uHp, uFrl h' r L (mfI L xs x) → uSm r (r + 2) h h' → Q none h') : uW mFrl_meet 0 [.ref r, uj x, .null, .null, .null] [] h 0 0 Q := by
  obtain ⟨hr, ⟨f, ha, hf⟩, hle, hL, hx⟩ := id R
  refine us_aload_n dFrl_meet_0 rfl ?_
  refine us_lload_n dFrl_meet_1 rfl ?_
  refine us_v1 mFrl_placeOf dFrl_meet_2 kV_Frl_25 hr ⟨by decide, rfl, rfl, (Nat.le_of_ble_eq_true rfl), (Nat.le_of_ble_eq_true rfl)⟩ (Nat.le_of_ble_eq_true rfl) (Nat.le_of_ble_eq_true rfl) rfl ?_
  refine c_Frl_placeOf R hxx ?_
  refine u_ko_1 ?_
  rw [plcI_idx]
  have hil := List.idxOf_le_length (l := xs) (a := x)
  by_cases hin : xs.idxOf x < xs.length
  · rw [if_pos hin]
    refine us_istore_3 dFrl_meet_5 rfl (Nat.le_of_ble_eq_true rfl) ?_
    refine us_iload_n dFrl_meet_6 rfl ?_
    refine us_iconst dFrl_meet_7 ?_
    refine us_icmp_ne dFrl_meet_8 (by omega) (fun c51 => ?_) (fun c51 => absurd (by assumption) (by omega))
    refine us_iload_n dFrl_meet_16 rfl ?_
    refine us_if_lt dFrl_meet_17 (by omega) (fun c52 => absurd c52 (by omega)) (fun c52 => ?_)
    refine us_iload_n dFrl_meet_20 rfl ?_
    refine us_aload_n dFrl_meet_21 rfl ?_
    refine us_getf 1 0 dFrl_meet_22 kF_Frl_15 hr rfl ?_
    refine us_alen dFrl_meet_25 ha ?_
    refine us_icmp_lt dFrl_meet_26 (by omega) (fun c53 => ?_) (fun c53 => ?_)
    · skip
      have hp : xs.idxOf x < L := by omega
      refine c_Frl_meet_30 (p := xs.idxOf x) (s := xs.length) hr ha hp hL hle (fun q hq => ⟨_, hf q (by have := List.idxOf_le_length (l := xs) (a := x); omega)⟩) rfl (fun h' f' a1 a2 a3 a4 => ?_)
      refine hQ h' ⟨by rw [mfI_len hp, a1], ⟨f', a2, fun j hj => ?_⟩, by rw [mfI_len hp]; have := List.idxOf_le_length (l := xs) (a := x); split <;> omega, hL, fun y hy => ?_⟩ a4
      · rw [mfI_len hp] at hj
        rw [a3 j]; unfold mfI; rw [if_pos hp, getD_mf]
        by_cases j0 : j = 0
        · rw [if_pos j0, if_pos j0]
        · rw [if_neg j0, if_neg j0]
          have hil := List.idxOf_le_length (l := xs) (a := x)
          by_cases jp : j ≤ xs.idxOf x
          · rw [if_pos jp, if_pos jp]; exact hf (j - 1) (by omega)
          · rw [if_neg jp, if_neg jp]; exact hf j (by split at hj <;> omega)
      · unfold mfI at hy; rw [if_pos hp] at hy
        rcases List.mem_cons.mp hy with hy | hy
        · rw [hy]; exact hxx
        · exact hx y (List.eraseIdx_subset hy)
    · skip
      rw [show mfI L xs x = xs from if_neg (by omega)] at hQ
      refine us_return dFrl_meet_29 rfl (Nat.le_of_ble_eq_true rfl) (Nat.le_of_ble_eq_true rfl) ?_
      exact hQ _ R uSm.rf
  · rw [if_neg hin]
    have hip : xs.idxOf x = xs.length := by omega
    refine us_istore_3 dFrl_meet_5 rfl (Nat.le_of_ble_eq_true rfl) ?_
    refine us_iload_n dFrl_meet_6 rfl ?_
    refine us_iconst dFrl_meet_7 ?_
    refine us_icmp_ne dFrl_meet_8 (by omega) (fun c51 => absurd rfl (by assumption)) (fun c51 => ?_)
    refine us_aload_n dFrl_meet_11 rfl ?_
    refine us_getf 1 1 dFrl_meet_12 kF_Frl_21 hr rfl ?_
    refine us_istore_3 dFrl_meet_15 rfl (Nat.le_of_ble_eq_true rfl) ?_
    have e9 : ((xs.length : Nat) : Int) = ((xs.idxOf x : Nat) : Int) := by omega
    rw [e9]
    refine us_iload_n dFrl_meet_16 rfl ?_
    refine us_if_lt dFrl_meet_17 (by omega) (fun c52 => absurd c52 (by omega)) (fun c52 => ?_)
    refine us_iload_n dFrl_meet_20 rfl ?_
    refine us_aload_n dFrl_meet_21 rfl ?_
    refine us_getf 1 0 dFrl_meet_22 kF_Frl_15 hr rfl ?_
    refine us_alen dFrl_meet_25 ha ?_
    refine us_icmp_lt dFrl_meet_26 (by omega) (fun c53 => ?_) (fun c53 => ?_)
    · skip
      have hp : xs.idxOf x < L := by omega
      refine c_Frl_meet_30 (p := xs.idxOf x) (s := xs.length) hr ha hp hL hle (fun q hq => ⟨_, hf q (by have := List.idxOf_le_length (l := xs) (a := x); omega)⟩) rfl (fun h' f' a1 a2 a3 a4 => ?_)
      refine hQ h' ⟨by rw [mfI_len hp, a1], ⟨f', a2, fun j hj => ?_⟩, by rw [mfI_len hp]; have := List.idxOf_le_length (l := xs) (a := x); split <;> omega, hL, fun y hy => ?_⟩ a4
      · rw [mfI_len hp] at hj
        rw [a3 j]; unfold mfI; rw [if_pos hp, getD_mf]
        by_cases j0 : j = 0
        · rw [if_pos j0, if_pos j0]
        · rw [if_neg j0, if_neg j0]
          have hil := List.idxOf_le_length (l := xs) (a := x)
          by_cases jp : j ≤ xs.idxOf x
          · rw [if_pos jp, if_pos jp]; exact hf (j - 1) (by omega)
          · rw [if_neg jp, if_neg jp]; exact hf j (by split at hj <;> omega)
      · unfold mfI at hy; rw [if_pos hp] at hy
        rcases List.mem_cons.mp hy with hy | hy
        · rw [hy]; exact hxx
        · exact hx y (List.eraseIdx_subset hy)
    · skip
      rw [show mfI L xs x = xs from if_neg (by omega)] at hQ
      refine us_return dFrl_meet_29 rfl (Nat.le_of_ble_eq_true rfl) (Nat.le_of_ble_eq_true rfl) ?_
      exact hQ _ R uSm.rf
end
section
/-! rows side by side; Page and Codes -/
def uP (P : Nat → List Int) (j : Nat) (xs : List Int) : Nat → List Int := fun i => if i = j then xs else P i
theorem uP_eq (P : Nat → List Int) (j : Nat) (xs : List Int) : uP P j xs j = xs := if_pos rfl
theorem uP_ne {P : Nat → List Int} {j i : Nat} {xs : List Int} (h : i ≠ j) : uP P j xs i = P i := if_neg h
def uFam (h : uHp) (b n : Nat) (cap : Nat → Nat) (P : Nat → List Int) : Prop := ∀ j, j < n → uRow h (b + 2 * j) (cap j) (P j)
theorem uFam.kept {h h' : uHp} {b n lo hi : Nat} {cap : Nat → Nat} {P : Nat → List Int} (R : uFam h b n cap P) (k : uSm lo hi h h') (d : b + 2 * n ≤ lo ∨ hi ≤ b) : uFam h' b n cap P := fun j hj => (R j hj).kept k (by omega)
theorem uFam.set {h h' : uHp} {b n j : Nat} {cap : Nat → Nat} {P : Nat → List Int} {xs : List Int} (R : uFam h b n cap P) (hR : uRow h' (b + 2 * j) (cap j) xs) (k : uSm (b + 2 * j) (b + 2 * j + 2) h h') : uFam h' b n cap (uP P j xs) := by
  intro i hi
  by_cases hij : i = j
  · subst hij
    rw [uP_eq]
    exact hR
  · rw [uP_ne hij]
    exact (R i hi).kept k (by omega)
theorem uFam.congr {h : uHp} {b n : Nat} {cap : Nat → Nat} {P P' : Nat → List Int} (R : uFam h b n cap P) (e : ∀ j, j < n → P j = P' j) : uFam h b n cap P' := fun j hj => e j hj ▸ R j hj
def u_capP (j : Nat) : Nat := if j < 2 then 100 else 34
def uPag (h : uHp) (p : Nat) (P : Nat → List Int) : Prop := h.2 p = some (.inl (3, [.ref (p + 1), .ref (p + 3), .ref (p + 5), .ref (p + 7), .ref (p + 9), .ref (p + 11), .ref (p + 13), .ref (p + 15)])) ∧ uFam h (p + 1) 8 u_capP P
theorem uPag.kept {h h' : uHp} {p lo hi : Nat} {P : Nat → List Int} (R : uPag h p P) (k : uSm lo hi h h') (d : p + 17 ≤ lo ∨ hi ≤ p) : uPag h' p P := ⟨k.at R.1 (by omega), R.2.kept k (by omega)⟩
theorem uPag.congr {h : uHp} {p : Nat} {P P' : Nat → List Int} (R : uPag h p P) (e : ∀ j, j < 8 → P j = P' j) : uPag h p P' := ⟨R.1, R.2.congr e⟩
theorem u_lt8 {p : Nat → Prop} (h0 : p 0) (h1 : p 1) (h2 : p 2) (h3 : p 3) (h4 : p 4) (h5 : p 5) (h6 : p 6) (h7 : p 7) : ∀ j, j < 8 → p j := lt_s (lt_s (lt_s (lt_s (lt_s (lt_s (lt_s (lt_s lt_0 h0) h1) h2) h3) h4) h5) h6) h7
theorem u_lt4 {p : Nat → Prop} (h0 : p 0) (h1 : p 1) (h2 : p 2) (h3 : p 3) : ∀ j, j < 4 → p j := lt_s (lt_s (lt_s (lt_s lt_0 h0) h1) h2) h3
theorem uPag.r0 {h : uHp} {p : Nat} {P : Nat → List Int} (R : uPag h p P) : uRow h (p + 1) 100 (P 0) := R.2 0 (by decide)
theorem uPag.s0 {h h' : uHp} {p : Nat} {P : Nat → List Int} {xs : List Int} (R : uPag h p P) (hR : uRow h' (p + 1) 100 xs) (k : uSm (p + 1) (p + 1 + 2) h h') : uPag h' p (uP P 0 xs) := ⟨k.at R.1 (by omega), R.2.set (j := 0) hR k⟩
theorem uPag.r1 {h : uHp} {p : Nat} {P : Nat → List Int} (R : uPag h p P) : uRow h (p + 3) 100 (P 1) := R.2 1 (by decide)
theorem uPag.s1 {h h' : uHp} {p : Nat} {P : Nat → List Int} {xs : List Int} (R : uPag h p P) (hR : uRow h' (p + 3) 100 xs) (k : uSm (p + 3) (p + 3 + 2) h h') : uPag h' p (uP P 1 xs) := ⟨k.at R.1 (by omega), R.2.set (j := 1) hR k⟩
theorem uPag.r2 {h : uHp} {p : Nat} {P : Nat → List Int} (R : uPag h p P) : uRow h (p + 5) 34 (P 2) := R.2 2 (by decide)
theorem uPag.s2 {h h' : uHp} {p : Nat} {P : Nat → List Int} {xs : List Int} (R : uPag h p P) (hR : uRow h' (p + 5) 34 xs) (k : uSm (p + 5) (p + 5 + 2) h h') : uPag h' p (uP P 2 xs) := ⟨k.at R.1 (by omega), R.2.set (j := 2) hR k⟩
theorem uPag.r3 {h : uHp} {p : Nat} {P : Nat → List Int} (R : uPag h p P) : uRow h (p + 7) 34 (P 3) := R.2 3 (by decide)
theorem uPag.s3 {h h' : uHp} {p : Nat} {P : Nat → List Int} {xs : List Int} (R : uPag h p P) (hR : uRow h' (p + 7) 34 xs) (k : uSm (p + 7) (p + 7 + 2) h h') : uPag h' p (uP P 3 xs) := ⟨k.at R.1 (by omega), R.2.set (j := 3) hR k⟩
theorem uPag.r4 {h : uHp} {p : Nat} {P : Nat → List Int} (R : uPag h p P) : uRow h (p + 9) 34 (P 4) := R.2 4 (by decide)
theorem uPag.s4 {h h' : uHp} {p : Nat} {P : Nat → List Int} {xs : List Int} (R : uPag h p P) (hR : uRow h' (p + 9) 34 xs) (k : uSm (p + 9) (p + 9 + 2) h h') : uPag h' p (uP P 4 xs) := ⟨k.at R.1 (by omega), R.2.set (j := 4) hR k⟩
theorem uPag.r5 {h : uHp} {p : Nat} {P : Nat → List Int} (R : uPag h p P) : uRow h (p + 11) 34 (P 5) := R.2 5 (by decide)
theorem uPag.s5 {h h' : uHp} {p : Nat} {P : Nat → List Int} {xs : List Int} (R : uPag h p P) (hR : uRow h' (p + 11) 34 xs) (k : uSm (p + 11) (p + 11 + 2) h h') : uPag h' p (uP P 5 xs) := ⟨k.at R.1 (by omega), R.2.set (j := 5) hR k⟩
theorem uPag.r6 {h : uHp} {p : Nat} {P : Nat → List Int} (R : uPag h p P) : uRow h (p + 13) 34 (P 6) := R.2 6 (by decide)
theorem uPag.s6 {h h' : uHp} {p : Nat} {P : Nat → List Int} {xs : List Int} (R : uPag h p P) (hR : uRow h' (p + 13) 34 xs) (k : uSm (p + 13) (p + 13 + 2) h h') : uPag h' p (uP P 6 xs) := ⟨k.at R.1 (by omega), R.2.set (j := 6) hR k⟩
theorem uPag.r7 {h : uHp} {p : Nat} {P : Nat → List Int} (R : uPag h p P) : uRow h (p + 15) 34 (P 7) := R.2 7 (by decide)
theorem uPag.s7 {h h' : uHp} {p : Nat} {P : Nat → List Int} {xs : List Int} (R : uPag h p P) (hR : uRow h' (p + 15) 34 xs) (k : uSm (p + 15) (p + 15 + 2) h h') : uPag h' p (uP P 7 xs) := ⟨k.at R.1 (by omega), R.2.set (j := 7) hR k⟩
theorem c_Pag_clear {h : uHp} {p : Nat} {P : Nat → List Int} {Q : uPs} (hP : uPag h p P) (hQ : ∀ h' : uHp, uPag h' p (fun _ => []) → uSm p (p + 17) h h' → Q none h') : uW mPag_clear 0 [.ref p] [] h 0 0 Q := by
  have hs : uSm p (p + 17) h h := uSm.rf
  refine us_aload_n dPag_clear_0 rfl ?_
  refine us_getf 3 0 dPag_clear_1 kF_Pag_14 hP.1 rfl ?_
  refine us_v0 mRow_clear dPag_clear_4 kV_Pag_41 hP.r0.1 ⟨by decide, rfl, rfl, (Nat.le_of_ble_eq_true rfl), (Nat.le_of_ble_eq_true rfl)⟩ (Nat.le_of_ble_eq_true rfl) (Nat.le_of_ble_eq_true rfl) rfl ?_
  refine c_Row_clear hP.r0 (fun h1 hR hs1 => ?_)
  refine u_ko_0 ?_
  have hP := hP.s0 hR hs1
  have hs := hs.tr (hs1.wd (by omega) (by omega))
  refine us_aload_n dPag_clear_7 rfl ?_
  refine us_getf 3 1 dPag_clear_8 kF_Pag_20 hP.1 rfl ?_
  refine us_v0 mRow_clear dPag_clear_11 kV_Pag_41 hP.r1.1 ⟨by decide, rfl, rfl, (Nat.le_of_ble_eq_true rfl), (Nat.le_of_ble_eq_true rfl)⟩ (Nat.le_of_ble_eq_true rfl) (Nat.le_of_ble_eq_true rfl) rfl ?_
  refine c_Row_clear hP.r1 (fun h1 hR hs1 => ?_)
  refine u_ko_0 ?_
  have hP := hP.s1 hR hs1
  have hs := hs.tr (hs1.wd (by omega) (by omega))
  refine us_aload_n dPag_clear_14 rfl ?_
  refine us_getf 3 2 dPag_clear_15 kF_Pag_23 hP.1 rfl ?_
  refine us_v0 mRow_clear dPag_clear_18 kV_Pag_41 hP.r2.1 ⟨by decide, rfl, rfl, (Nat.le_of_ble_eq_true rfl), (Nat.le_of_ble_eq_true rfl)⟩ (Nat.le_of_ble_eq_true rfl) (Nat.le_of_ble_eq_true rfl) rfl ?_
  refine c_Row_clear hP.r2 (fun h1 hR hs1 => ?_)
  refine u_ko_0 ?_
  have hP := hP.s2 hR hs1
  have hs := hs.tr (hs1.wd (by omega) (by omega))
  refine us_aload_n dPag_clear_21 rfl ?_
  refine us_getf 3 3 dPag_clear_22 kF_Pag_26 hP.1 rfl ?_
  refine us_v0 mRow_clear dPag_clear_25 kV_Pag_41 hP.r3.1 ⟨by decide, rfl, rfl, (Nat.le_of_ble_eq_true rfl), (Nat.le_of_ble_eq_true rfl)⟩ (Nat.le_of_ble_eq_true rfl) (Nat.le_of_ble_eq_true rfl) rfl ?_
  refine c_Row_clear hP.r3 (fun h1 hR hs1 => ?_)
  refine u_ko_0 ?_
  have hP := hP.s3 hR hs1
  have hs := hs.tr (hs1.wd (by omega) (by omega))
  refine us_aload_n dPag_clear_28 rfl ?_
  refine us_getf 3 4 dPag_clear_29 kF_Pag_29 hP.1 rfl ?_
  refine us_v0 mRow_clear dPag_clear_32 kV_Pag_41 hP.r4.1 ⟨by decide, rfl, rfl, (Nat.le_of_ble_eq_true rfl), (Nat.le_of_ble_eq_true rfl)⟩ (Nat.le_of_ble_eq_true rfl) (Nat.le_of_ble_eq_true rfl) rfl ?_
  refine c_Row_clear hP.r4 (fun h1 hR hs1 => ?_)
  refine u_ko_0 ?_
  have hP := hP.s4 hR hs1
  have hs := hs.tr (hs1.wd (by omega) (by omega))
  refine us_aload_n dPag_clear_35 rfl ?_
  refine us_getf 3 5 dPag_clear_36 kF_Pag_32 hP.1 rfl ?_
  refine us_v0 mRow_clear dPag_clear_39 kV_Pag_41 hP.r5.1 ⟨by decide, rfl, rfl, (Nat.le_of_ble_eq_true rfl), (Nat.le_of_ble_eq_true rfl)⟩ (Nat.le_of_ble_eq_true rfl) (Nat.le_of_ble_eq_true rfl) rfl ?_
  refine c_Row_clear hP.r5 (fun h1 hR hs1 => ?_)
  refine u_ko_0 ?_
  have hP := hP.s5 hR hs1
  have hs := hs.tr (hs1.wd (by omega) (by omega))
  refine us_aload_n dPag_clear_42 rfl ?_
  refine us_getf 3 6 dPag_clear_43 kF_Pag_35 hP.1 rfl ?_
  refine us_v0 mRow_clear dPag_clear_46 kV_Pag_41 hP.r6.1 ⟨by decide, rfl, rfl, (Nat.le_of_ble_eq_true rfl), (Nat.le_of_ble_eq_true rfl)⟩ (Nat.le_of_ble_eq_true rfl) (Nat.le_of_ble_eq_true rfl) rfl ?_
  refine c_Row_clear hP.r6 (fun h1 hR hs1 => ?_)
  refine u_ko_0 ?_
  have hP := hP.s6 hR hs1
  have hs := hs.tr (hs1.wd (by omega) (by omega))
  refine us_aload_n dPag_clear_49 rfl ?_
  refine us_getf 3 7 dPag_clear_50 kF_Pag_38 hP.1 rfl ?_
  refine us_v0 mRow_clear dPag_clear_53 kV_Pag_41 hP.r7.1 ⟨by decide, rfl, rfl, (Nat.le_of_ble_eq_true rfl), (Nat.le_of_ble_eq_true rfl)⟩ (Nat.le_of_ble_eq_true rfl) (Nat.le_of_ble_eq_true rfl) rfl ?_
  refine c_Row_clear hP.r7 (fun h1 hR hs1 => ?_)
  refine u_ko_0 ?_
  have hP := hP.s7 hR hs1
  have hs := hs.tr (hs1.wd (by omega) (by omega))
  refine us_return dPag_clear_56 rfl (Nat.le_of_ble_eq_true rfl) (Nat.le_of_ble_eq_true rfl) ?_
  exact hQ _ (hP.congr (u_lt8 rfl rfl rfl rfl rfl rfl rfl rfl)) hs

theorem c_Pag_become {h : uHp} {p q : Nat} {P P2 : Nat → List Int} {Q : uPs} (hP : uPag h p P) (hO : uPag h q P2) (hd : p + 17 ≤ q ∨ q + 17 ≤ p) (hQ : ∀ h' : uHp, uPag h' p P2 → uSm p (p + 17) h h' → Q none h') : uW mPag_become 0 [.ref p, .ref q] [] h 0 0 Q := by
  have hs : uSm p (p + 17) h h := uSm.rf
  refine us_aload_n dPag_become_0 rfl ?_
  refine us_getf 3 0 dPag_become_1 kF_Pag_14 hP.1 rfl ?_
  refine us_aload_n dPag_become_4 rfl ?_
  refine us_getf 3 0 dPag_become_5 kF_Pag_14 hO.1 rfl ?_
  refine us_v1 mRow_become dPag_become_8 kV_Pag_44 hP.r0.1 ⟨by decide, rfl, rfl, (Nat.le_of_ble_eq_true rfl), (Nat.le_of_ble_eq_true rfl)⟩ (Nat.le_of_ble_eq_true rfl) (Nat.le_of_ble_eq_true rfl) rfl ?_
  refine c_Row_become hP.r0 hO.r0 (by omega) (fun h1 hR hs1 => ?_)
  refine u_ko_0 ?_
  have hP := hP.s0 hR hs1
  have hs := hs.tr (hs1.wd (by omega) (by omega))
  have hO := hO.kept hs1 (by omega)
  refine us_aload_n dPag_become_11 rfl ?_
  refine us_getf 3 1 dPag_become_12 kF_Pag_20 hP.1 rfl ?_
  refine us_aload_n dPag_become_15 rfl ?_
  refine us_getf 3 1 dPag_become_16 kF_Pag_20 hO.1 rfl ?_
  refine us_v1 mRow_become dPag_become_19 kV_Pag_44 hP.r1.1 ⟨by decide, rfl, rfl, (Nat.le_of_ble_eq_true rfl), (Nat.le_of_ble_eq_true rfl)⟩ (Nat.le_of_ble_eq_true rfl) (Nat.le_of_ble_eq_true rfl) rfl ?_
  refine c_Row_become hP.r1 hO.r1 (by omega) (fun h1 hR hs1 => ?_)
  refine u_ko_0 ?_
  have hP := hP.s1 hR hs1
  have hs := hs.tr (hs1.wd (by omega) (by omega))
  have hO := hO.kept hs1 (by omega)
  refine us_aload_n dPag_become_22 rfl ?_
  refine us_getf 3 2 dPag_become_23 kF_Pag_23 hP.1 rfl ?_
  refine us_aload_n dPag_become_26 rfl ?_
  refine us_getf 3 2 dPag_become_27 kF_Pag_23 hO.1 rfl ?_
  refine us_v1 mRow_become dPag_become_30 kV_Pag_44 hP.r2.1 ⟨by decide, rfl, rfl, (Nat.le_of_ble_eq_true rfl), (Nat.le_of_ble_eq_true rfl)⟩ (Nat.le_of_ble_eq_true rfl) (Nat.le_of_ble_eq_true rfl) rfl ?_
  refine c_Row_become hP.r2 hO.r2 (by omega) (fun h1 hR hs1 => ?_)
  refine u_ko_0 ?_
  have hP := hP.s2 hR hs1
  have hs := hs.tr (hs1.wd (by omega) (by omega))
  have hO := hO.kept hs1 (by omega)
  refine us_aload_n dPag_become_33 rfl ?_
  refine us_getf 3 3 dPag_become_34 kF_Pag_26 hP.1 rfl ?_
  refine us_aload_n dPag_become_37 rfl ?_
  refine us_getf 3 3 dPag_become_38 kF_Pag_26 hO.1 rfl ?_
  refine us_v1 mRow_become dPag_become_41 kV_Pag_44 hP.r3.1 ⟨by decide, rfl, rfl, (Nat.le_of_ble_eq_true rfl), (Nat.le_of_ble_eq_true rfl)⟩ (Nat.le_of_ble_eq_true rfl) (Nat.le_of_ble_eq_true rfl) rfl ?_
  refine c_Row_become hP.r3 hO.r3 (by omega) (fun h1 hR hs1 => ?_)
  refine u_ko_0 ?_
  have hP := hP.s3 hR hs1
  have hs := hs.tr (hs1.wd (by omega) (by omega))
  have hO := hO.kept hs1 (by omega)
  refine us_aload_n dPag_become_44 rfl ?_
  refine us_getf 3 4 dPag_become_45 kF_Pag_29 hP.1 rfl ?_
  refine us_aload_n dPag_become_48 rfl ?_
  refine us_getf 3 4 dPag_become_49 kF_Pag_29 hO.1 rfl ?_
  refine us_v1 mRow_become dPag_become_52 kV_Pag_44 hP.r4.1 ⟨by decide, rfl, rfl, (Nat.le_of_ble_eq_true rfl), (Nat.le_of_ble_eq_true rfl)⟩ (Nat.le_of_ble_eq_true rfl) (Nat.le_of_ble_eq_true rfl) rfl ?_
  refine c_Row_become hP.r4 hO.r4 (by omega) (fun h1 hR hs1 => ?_)
  refine u_ko_0 ?_
  have hP := hP.s4 hR hs1
  have hs := hs.tr (hs1.wd (by omega) (by omega))
  have hO := hO.kept hs1 (by omega)
  refine us_aload_n dPag_become_55 rfl ?_
  refine us_getf 3 5 dPag_become_56 kF_Pag_32 hP.1 rfl ?_
  refine us_aload_n dPag_become_59 rfl ?_
  refine us_getf 3 5 dPag_become_60 kF_Pag_32 hO.1 rfl ?_
  refine us_v1 mRow_become dPag_become_63 kV_Pag_44 hP.r5.1 ⟨by decide, rfl, rfl, (Nat.le_of_ble_eq_true rfl), (Nat.le_of_ble_eq_true rfl)⟩ (Nat.le_of_ble_eq_true rfl) (Nat.le_of_ble_eq_true rfl) rfl ?_
  refine c_Row_become hP.r5 hO.r5 (by omega) (fun h1 hR hs1 => ?_)
  refine u_ko_0 ?_
  have hP := hP.s5 hR hs1
  have hs := hs.tr (hs1.wd (by omega) (by omega))
  have hO := hO.kept hs1 (by omega)
  refine us_aload_n dPag_become_66 rfl ?_
  refine us_getf 3 6 dPag_become_67 kF_Pag_35 hP.1 rfl ?_
  refine us_aload_n dPag_become_70 rfl ?_
  refine us_getf 3 6 dPag_become_71 kF_Pag_35 hO.1 rfl ?_
  refine us_v1 mRow_become dPag_become_74 kV_Pag_44 hP.r6.1 ⟨by decide, rfl, rfl, (Nat.le_of_ble_eq_true rfl), (Nat.le_of_ble_eq_true rfl)⟩ (Nat.le_of_ble_eq_true rfl) (Nat.le_of_ble_eq_true rfl) rfl ?_
  refine c_Row_become hP.r6 hO.r6 (by omega) (fun h1 hR hs1 => ?_)
  refine u_ko_0 ?_
  have hP := hP.s6 hR hs1
  have hs := hs.tr (hs1.wd (by omega) (by omega))
  have hO := hO.kept hs1 (by omega)
  refine us_aload_n dPag_become_77 rfl ?_
  refine us_getf 3 7 dPag_become_78 kF_Pag_38 hP.1 rfl ?_
  refine us_aload_n dPag_become_81 rfl ?_
  refine us_getf 3 7 dPag_become_82 kF_Pag_38 hO.1 rfl ?_
  refine us_v1 mRow_become dPag_become_85 kV_Pag_44 hP.r7.1 ⟨by decide, rfl, rfl, (Nat.le_of_ble_eq_true rfl), (Nat.le_of_ble_eq_true rfl)⟩ (Nat.le_of_ble_eq_true rfl) (Nat.le_of_ble_eq_true rfl) rfl ?_
  refine c_Row_become hP.r7 hO.r7 (by omega) (fun h1 hR hs1 => ?_)
  refine u_ko_0 ?_
  have hP := hP.s7 hR hs1
  have hs := hs.tr (hs1.wd (by omega) (by omega))
  have hO := hO.kept hs1 (by omega)
  refine us_return dPag_become_88 rfl (Nat.le_of_ble_eq_true rfl) (Nat.le_of_ble_eq_true rfl) ?_
  exact hQ _ (hP.congr (u_lt8 rfl rfl rfl rfl rfl rfl rfl rfl)) hs

def p_addBox (P : Nat → List Int) (place name around : Int) : Nat → List Int := uP (uP (uP (uP P 1 (appI 100 (P 1) 0)) 2 (appI 34 (P 2) place)) 3 (appI 34 (P 3) name)) 4 (appI 34 (P 4) around)
def p_addWord (P : Nat → List Int) (place around : Int) : Nat → List Int := uP (uP (uP (uP P 1 (appI 100 (P 1) 1)) 6 (appI 34 (P 6) place)) 7 (appI 34 (P 7) 1)) 5 (appI 34 (P 5) around)
def putI (xs : List Int) (i x : Int) : List Int := if 0 ≤ i then xs.set i.toNat x else xs
def p_lengthen (P : Nat → List Int) : Nat → List Int := uP P 7 (putI (P 7) ((P 7).length - 1) ((P 7).getLastD (-1) + 1))
theorem c_Pag_addBox {h : uHp} {p : Nat} {P : Nat → List Int} {a b c : Int} {Q : uPs} (hP : uPag h p P) (ha : -1000000 ≤ a ∧ a ≤ 1000000) (hb : -1000000 ≤ b ∧ b ≤ 1000000) (hc : -1000000 ≤ c ∧ c ≤ 1000000) (hQ : ∀ h' : uHp, uPag h' p (p_addBox P a b c) → uSm p (p + 17) h h' → Q none h') : uW mPag_addBox 0 [.ref p, ui a, ui b, ui c] [] h 0 0 Q := by
  have hs : uSm p (p + 17) h h := uSm.rf
  refine us_aload_n dPag_addBox_0 rfl ?_
  refine us_getf 3 1 dPag_addBox_1 kF_Pag_20 hP.1 rfl ?_
  refine us_iconst dPag_addBox_4 ?_
  refine us_v1 mRow_add dPag_addBox_5 kV_Pag_48 hP.r1.1 ⟨by decide, rfl, rfl, (Nat.le_of_ble_eq_true rfl), (Nat.le_of_ble_eq_true rfl)⟩ (Nat.le_of_ble_eq_true rfl) (Nat.le_of_ble_eq_true rfl) rfl ?_
  refine c_Row_add hP.r1 (by decide) (fun h1 hR hs1 => ?_)
  refine u_ko_0 ?_
  have hP := hP.s1 hR hs1
  have hs := hs.tr (hs1.wd (by omega) (by omega))
  refine us_aload_n dPag_addBox_8 rfl ?_
  refine us_getf 3 2 dPag_addBox_9 kF_Pag_23 hP.1 rfl ?_
  refine us_iload_n dPag_addBox_12 rfl ?_
  refine us_v1 mRow_add dPag_addBox_13 kV_Pag_48 hP.r2.1 ⟨by decide, rfl, rfl, (Nat.le_of_ble_eq_true rfl), (Nat.le_of_ble_eq_true rfl)⟩ (Nat.le_of_ble_eq_true rfl) (Nat.le_of_ble_eq_true rfl) rfl ?_
  refine c_Row_add hP.r2 ha (fun h1 hR hs1 => ?_)
  refine u_ko_0 ?_
  have hP := hP.s2 hR hs1
  have hs := hs.tr (hs1.wd (by omega) (by omega))
  refine us_aload_n dPag_addBox_16 rfl ?_
  refine us_getf 3 3 dPag_addBox_17 kF_Pag_26 hP.1 rfl ?_
  refine us_iload_n dPag_addBox_20 rfl ?_
  refine us_v1 mRow_add dPag_addBox_21 kV_Pag_48 hP.r3.1 ⟨by decide, rfl, rfl, (Nat.le_of_ble_eq_true rfl), (Nat.le_of_ble_eq_true rfl)⟩ (Nat.le_of_ble_eq_true rfl) (Nat.le_of_ble_eq_true rfl) rfl ?_
  refine c_Row_add hP.r3 hb (fun h1 hR hs1 => ?_)
  refine u_ko_0 ?_
  have hP := hP.s3 hR hs1
  have hs := hs.tr (hs1.wd (by omega) (by omega))
  refine us_aload_n dPag_addBox_24 rfl ?_
  refine us_getf 3 4 dPag_addBox_25 kF_Pag_29 hP.1 rfl ?_
  refine us_iload_n dPag_addBox_28 rfl ?_
  refine us_v1 mRow_add dPag_addBox_29 kV_Pag_48 hP.r4.1 ⟨by decide, rfl, rfl, (Nat.le_of_ble_eq_true rfl), (Nat.le_of_ble_eq_true rfl)⟩ (Nat.le_of_ble_eq_true rfl) (Nat.le_of_ble_eq_true rfl) rfl ?_
  refine c_Row_add hP.r4 hc (fun h1 hR hs1 => ?_)
  refine u_ko_0 ?_
  have hP := hP.s4 hR hs1
  have hs := hs.tr (hs1.wd (by omega) (by omega))
  refine us_return dPag_addBox_32 rfl (Nat.le_of_ble_eq_true rfl) (Nat.le_of_ble_eq_true rfl) ?_
  exact hQ _ hP hs

theorem c_Pag_addWord {h : uHp} {p : Nat} {P : Nat → List Int} {a b : Int} {Q : uPs} (hP : uPag h p P) (ha : -1000000 ≤ a ∧ a ≤ 1000000) (hb : -1000000 ≤ b ∧ b ≤ 1000000) (hQ : ∀ h' : uHp, uPag h' p (p_addWord P a b) → uSm p (p + 17) h h' → Q none h') : uW mPag_addWord 0 [.ref p, ui a, ui b] [] h 0 0 Q := by
  have hs : uSm p (p + 17) h h := uSm.rf
  refine us_aload_n dPag_addWord_0 rfl ?_
  refine us_getf 3 1 dPag_addWord_1 kF_Pag_20 hP.1 rfl ?_
  refine us_iconst dPag_addWord_4 ?_
  refine us_v1 mRow_add dPag_addWord_5 kV_Pag_48 hP.r1.1 ⟨by decide, rfl, rfl, (Nat.le_of_ble_eq_true rfl), (Nat.le_of_ble_eq_true rfl)⟩ (Nat.le_of_ble_eq_true rfl) (Nat.le_of_ble_eq_true rfl) rfl ?_
  refine c_Row_add hP.r1 (by decide) (fun h1 hR hs1 => ?_)
  refine u_ko_0 ?_
  have hP := hP.s1 hR hs1
  have hs := hs.tr (hs1.wd (by omega) (by omega))
  refine us_aload_n dPag_addWord_8 rfl ?_
  refine us_getf 3 6 dPag_addWord_9 kF_Pag_35 hP.1 rfl ?_
  refine us_iload_n dPag_addWord_12 rfl ?_
  refine us_v1 mRow_add dPag_addWord_13 kV_Pag_48 hP.r6.1 ⟨by decide, rfl, rfl, (Nat.le_of_ble_eq_true rfl), (Nat.le_of_ble_eq_true rfl)⟩ (Nat.le_of_ble_eq_true rfl) (Nat.le_of_ble_eq_true rfl) rfl ?_
  refine c_Row_add hP.r6 ha (fun h1 hR hs1 => ?_)
  refine u_ko_0 ?_
  have hP := hP.s6 hR hs1
  have hs := hs.tr (hs1.wd (by omega) (by omega))
  refine us_aload_n dPag_addWord_16 rfl ?_
  refine us_getf 3 7 dPag_addWord_17 kF_Pag_38 hP.1 rfl ?_
  refine us_iconst dPag_addWord_20 ?_
  refine us_v1 mRow_add dPag_addWord_21 kV_Pag_48 hP.r7.1 ⟨by decide, rfl, rfl, (Nat.le_of_ble_eq_true rfl), (Nat.le_of_ble_eq_true rfl)⟩ (Nat.le_of_ble_eq_true rfl) (Nat.le_of_ble_eq_true rfl) rfl ?_
  refine c_Row_add hP.r7 (by decide) (fun h1 hR hs1 => ?_)
  refine u_ko_0 ?_
  have hP := hP.s7 hR hs1
  have hs := hs.tr (hs1.wd (by omega) (by omega))
  refine us_aload_n dPag_addWord_24 rfl ?_
  refine us_getf 3 5 dPag_addWord_25 kF_Pag_32 hP.1 rfl ?_
  refine us_iload_n dPag_addWord_28 rfl ?_
  refine us_v1 mRow_add dPag_addWord_29 kV_Pag_48 hP.r5.1 ⟨by decide, rfl, rfl, (Nat.le_of_ble_eq_true rfl), (Nat.le_of_ble_eq_true rfl)⟩ (Nat.le_of_ble_eq_true rfl) (Nat.le_of_ble_eq_true rfl) rfl ?_
  refine c_Row_add hP.r5 hb (fun h1 hR hs1 => ?_)
  refine u_ko_0 ?_
  have hP := hP.s5 hR hs1
  have hs := hs.tr (hs1.wd (by omega) (by omega))
  refine us_return dPag_addWord_32 rfl (Nat.le_of_ble_eq_true rfl) (Nat.le_of_ble_eq_true rfl) ?_
  exact hQ _ hP hs

theorem uRow.lastR {h : uHp} {r L : Nat} {xs : List Int} (R : uRow h r L xs) : -1000000 ≤ xs.getLastD (-1) ∧ xs.getLastD (-1) ≤ 1000000 := by
  by_cases e : xs = []
  · subst e; decide
  · rw [List.getLastD_eq_getLast?, List.getLast?_eq_some_getLast e]
    exact R.2.2.2.2 _ (List.getLast_mem e)
theorem c_Pag_lengthen {h : uHp} {p : Nat} {P : Nat → List Int} {Q : uPs} (hP : uPag h p P) (hl : (P 7).getLastD (-1) < 1000000) (hQ : ∀ h' : uHp, uPag h' p (p_lengthen P) → uSm p (p + 17) h h' → Q none h') : uW mPag_lengthenWord 0 [.ref p] [] h 0 0 Q := by
  have hs : uSm p (p + 17) h h := uSm.rf
  refine us_aload_n dPag_lengthenWord_0 rfl ?_
  refine us_getf 3 7 dPag_lengthenWord_1 kF_Pag_38 hP.1 rfl ?_
  refine us_aload_n dPag_lengthenWord_4 rfl ?_
  refine us_getf 3 7 dPag_lengthenWord_5 kF_Pag_38 hP.1 rfl ?_
  refine us_v0 mRow_size dPag_lengthenWord_8 kV_Pag_51 hP.r7.1 ⟨by decide, rfl, rfl, (Nat.le_of_ble_eq_true rfl), (Nat.le_of_ble_eq_true rfl)⟩ (Nat.le_of_ble_eq_true rfl) (Nat.le_of_ble_eq_true rfl) rfl ?_
  refine c_Row_size hP.r7 ?_
  refine u_ko_1 ?_
  refine us_iconst dPag_lengthenWord_11 ?_
  refine us_isub dPag_lengthenWord_12 ?_
  refine us_aload_n dPag_lengthenWord_13 rfl ?_
  refine us_getf 3 7 dPag_lengthenWord_14 kF_Pag_38 hP.1 rfl ?_
  refine us_v0 mRow_last dPag_lengthenWord_17 kV_Pag_55 hP.r7.1 ⟨by decide, rfl, rfl, (Nat.le_of_ble_eq_true rfl), (Nat.le_of_ble_eq_true rfl)⟩ (Nat.le_of_ble_eq_true rfl) (Nat.le_of_ble_eq_true rfl) rfl ?_
  refine c_Row_last hP.r7 ?_
  refine u_ko_1 ?_
  refine us_iconst dPag_lengthenWord_20 ?_
  refine us_iadd dPag_lengthenWord_21 ?_
  refine us_v2 mRow_put dPag_lengthenWord_22 kV_Pag_58 hP.r7.1 ⟨by decide, rfl, rfl, (Nat.le_of_ble_eq_true rfl), (Nat.le_of_ble_eq_true rfl)⟩ (Nat.le_of_ble_eq_true rfl) (Nat.le_of_ble_eq_true rfl) rfl ?_
  refine c_Row_put hP.r7 (by have := hP.r7.2.2; omega) (by have := hP.r7.lastR; omega) (fun h1 hR hs1 => ?_)
  refine u_ko_0 ?_
  have hP := hP.s7 hR hs1
  have hs := hs.tr (hs1.wd (by omega) (by omega))
  refine us_return dPag_lengthenWord_25 rfl (Nat.le_of_ble_eq_true rfl) (Nat.le_of_ble_eq_true rfl) ?_
  exact hQ _ hP hs

def p_kn (P : Nat → List Int) (box note : Int) : Int := if ratI (P 0) (ratI (P 2) box + 2 + 4 * note) = 32 then ratI (P 0) (ratI (P 2) box + 2 + 4 * note + 1) - 119 else -1
theorem p_kn_rng {h : uHp} {p : Nat} {P : Nat → List Int} (hP : uPag h p P) (box note : Int) : -1000119 ≤ p_kn P box note ∧ p_kn P box note ≤ 1000000 := by
  have := ratI_rng hP.r0 (ratI (P 2) box + 2 + 4 * note + 1)
  unfold p_kn
  split <;> omega
theorem c_Pag_kn {h : uHp} {p : Nat} {P : Nat → List Int} {box note : Int} {Q : uPs} (hP : uPag h p P) (hb : -2147483648 ≤ box ∧ box ≤ 2147483647) (hn : -1000 ≤ note ∧ note ≤ 1000) (hQ : Q (some (ui (p_kn P box note))) h) : uW mPag_keyOfNote 0 [.ref p, ui box, ui note, .null] [] h 0 0 Q := by
  refine us_aload_n dPag_keyOfNote_0 rfl ?_
  refine us_getf 3 2 dPag_keyOfNote_1 kF_Pag_23 hP.1 rfl ?_
  refine us_iload_n dPag_keyOfNote_4 rfl ?_
  refine us_v1 mRow_at dPag_keyOfNote_5 kV_Pag_62 hP.r2.1 ⟨by decide, rfl, rfl, (Nat.le_of_ble_eq_true rfl), (Nat.le_of_ble_eq_true rfl)⟩ (Nat.le_of_ble_eq_true rfl) (Nat.le_of_ble_eq_true rfl) rfl ?_
  refine c_Row_at hP.r2 hb ?_
  refine u_ko_1 ?_
  have hr := ratI_rng hP.r2 box
  refine us_iconst dPag_keyOfNote_8 ?_
  refine us_iadd dPag_keyOfNote_9 ?_
  refine us_iconst dPag_keyOfNote_10 ?_
  refine us_iload_n dPag_keyOfNote_11 rfl ?_
  refine us_imul dPag_keyOfNote_12 ?_
  refine us_iadd dPag_keyOfNote_13 ?_
  refine us_istore_3 dPag_keyOfNote_14 rfl (Nat.le_of_ble_eq_true rfl) ?_
  refine us_aload_n dPag_keyOfNote_15 rfl ?_
  refine us_getf 3 0 dPag_keyOfNote_16 kF_Pag_14 hP.1 rfl ?_
  refine us_iload_n dPag_keyOfNote_19 rfl ?_
  refine us_v1 mRow_at dPag_keyOfNote_20 kV_Pag_62 hP.r0.1 ⟨by decide, rfl, rfl, (Nat.le_of_ble_eq_true rfl), (Nat.le_of_ble_eq_true rfl)⟩ (Nat.le_of_ble_eq_true rfl) (Nat.le_of_ble_eq_true rfl) rfl ?_
  refine c_Row_at hP.r0 (by omega) ?_
  refine u_ko_1 ?_
  have hr2 := ratI_rng hP.r0 (ratI (P 2) box + 2 + 4 * note)
  refine us_bipush dPag_keyOfNote_23 (by decide) ?_
  refine us_icmp_ne dPag_keyOfNote_25 (by omega) (fun c1 => ?_) (fun c1 => ?_)
  · skip
    rw [show p_kn P box note = -1 from if_neg (by assumption)] at hQ
    refine us_iconst dPag_keyOfNote_44 ?_
    refine us_ireturn dPag_keyOfNote_45 rfl (Nat.le_of_ble_eq_true rfl) (Nat.le_of_ble_eq_true rfl) ?_
    exact hQ
  · skip
    refine us_aload_n dPag_keyOfNote_28 rfl ?_
    refine us_getf 3 0 dPag_keyOfNote_29 kF_Pag_14 hP.1 rfl ?_
    refine us_iload_n dPag_keyOfNote_32 rfl ?_
    refine us_iconst dPag_keyOfNote_33 ?_
    refine us_iadd dPag_keyOfNote_34 ?_
    refine us_v1 mRow_at dPag_keyOfNote_35 kV_Pag_62 hP.r0.1 ⟨by decide, rfl, rfl, (Nat.le_of_ble_eq_true rfl), (Nat.le_of_ble_eq_true rfl)⟩ (Nat.le_of_ble_eq_true rfl) (Nat.le_of_ble_eq_true rfl) rfl ?_
    refine c_Row_at hP.r0 (by omega) ?_
    refine u_ko_1 ?_
    refine us_bipush dPag_keyOfNote_38 (by decide) ?_
    refine us_isub dPag_keyOfNote_40 ?_
    rw [show p_kn P box note = ratI (P 0) (ratI (P 2) box + 2 + 4 * note + 1) - 119 from if_pos (by assumption)] at hQ
    refine us_goto dPag_keyOfNote_41 ?_
    refine us_ireturn dPag_keyOfNote_45 rfl (Nat.le_of_ble_eq_true rfl) (Nat.le_of_ble_eq_true rfl) ?_
    exact hQ

def p_vokF (P : Nat → List Int) (box key : Int) : Nat → Nat → Int
  | 0, _ => -1
  | n + 1, j => if p_kn P box j = key then ratI (P 0) (ratI (P 2) box + 5 + 4 * (j : Int)) - 48 else p_vokF P box key n (j + 1)
def p_vok (P : Nat → List Int) (box key : Int) : Int := p_vokF P box key 4 0
theorem c_Pag_vok_2 {h : uHp} {p : Nat} {P : Nat → List Int} {box key : Int} {Q : uPs} (hP : uPag h p P) (hb : -2147483648 ≤ box ∧ box ≤ 2147483647) (hk : -2147483648 ≤ key ∧ key ≤ 2147483647) : ∀ (n j : Nat), n + j = 4 → Q (some (ui (p_vokF P box key n j))) h → uW mPag_valueOfKey 2 [.ref p, ui box, ui key, ui (j : Int)] [] h 0 0 Q := by
  intro n
  induction n with
  | zero =>
    intro j h1 hQ
    refine us_iload_n dPag_valueOfKey_2 rfl ?_
    refine us_iconst dPag_valueOfKey_3 ?_
    refine us_icmp_ge dPag_valueOfKey_4 (by omega) (fun c21 => ?_) (fun c21 => absurd c21 (by omega))
    refine us_iconst dPag_valueOfKey_48 ?_
    refine us_ireturn dPag_valueOfKey_49 rfl (Nat.le_of_ble_eq_true rfl) (Nat.le_of_ble_eq_true rfl) ?_
    exact hQ
  | succ n ih =>
    intro j h1 hQ
    refine us_iload_n dPag_valueOfKey_2 rfl ?_
    refine us_iconst dPag_valueOfKey_3 ?_
    refine us_icmp_ge dPag_valueOfKey_4 (by omega) (fun c1 => absurd c1 (by omega)) (fun c1 => ?_)
    refine us_aload_n dPag_valueOfKey_7 rfl ?_
    refine us_iload_n dPag_valueOfKey_8 rfl ?_
    refine us_iload_n dPag_valueOfKey_9 rfl ?_
    refine us_v2 mPag_keyOfNote dPag_valueOfKey_10 kV_Pag_66 hP.1 ⟨by decide, rfl, rfl, (Nat.le_of_ble_eq_true rfl), (Nat.le_of_ble_eq_true rfl)⟩ (Nat.le_of_ble_eq_true rfl) (Nat.le_of_ble_eq_true rfl) rfl ?_
    refine c_Pag_kn hP hb (by omega) ?_
    refine u_ko_1 ?_
    have hr := p_kn_rng hP box (j : Int)
    refine us_iload_n dPag_valueOfKey_13 rfl ?_
    refine us_icmp_ne dPag_valueOfKey_14 (by omega) (fun c2 => ?_) (fun c2 => ?_)
    · skip
      refine us_iinc_3 dPag_valueOfKey_42 rfl (Nat.le_of_ble_eq_true rfl) ?_
      refine us_goto dPag_valueOfKey_45 ?_
      rw [show p_vokF P box key (n + 1) j = _ from if_neg (by assumption)] at hQ
      exact ih (j + 1) (by omega) hQ
    · skip
      refine us_aload_n dPag_valueOfKey_17 rfl ?_
      refine us_getf 3 0 dPag_valueOfKey_18 kF_Pag_14 hP.1 rfl ?_
      refine us_aload_n dPag_valueOfKey_21 rfl ?_
      refine us_getf 3 2 dPag_valueOfKey_22 kF_Pag_23 hP.1 rfl ?_
      refine us_iload_n dPag_valueOfKey_25 rfl ?_
      refine us_v1 mRow_at dPag_valueOfKey_26 kV_Pag_62 hP.r2.1 ⟨by decide, rfl, rfl, (Nat.le_of_ble_eq_true rfl), (Nat.le_of_ble_eq_true rfl)⟩ (Nat.le_of_ble_eq_true rfl) (Nat.le_of_ble_eq_true rfl) rfl ?_
      refine c_Row_at hP.r2 hb ?_
      refine u_ko_1 ?_
      have hr2 := ratI_rng hP.r2 box
      refine us_iconst dPag_valueOfKey_29 ?_
      refine us_iadd dPag_valueOfKey_30 ?_
      refine us_iconst dPag_valueOfKey_31 ?_
      refine us_iload_n dPag_valueOfKey_32 rfl ?_
      refine us_imul dPag_valueOfKey_33 ?_
      refine us_iadd dPag_valueOfKey_34 ?_
      refine us_v1 mRow_at dPag_valueOfKey_35 kV_Pag_62 hP.r0.1 ⟨by decide, rfl, rfl, (Nat.le_of_ble_eq_true rfl), (Nat.le_of_ble_eq_true rfl)⟩ (Nat.le_of_ble_eq_true rfl) (Nat.le_of_ble_eq_true rfl) rfl ?_
      refine c_Row_at hP.r0 (by omega) ?_
      refine u_ko_1 ?_
      refine us_bipush dPag_valueOfKey_38 (by decide) ?_
      refine us_isub dPag_valueOfKey_40 ?_
      refine us_ireturn dPag_valueOfKey_41 rfl (Nat.le_of_ble_eq_true rfl) (Nat.le_of_ble_eq_true rfl) ?_
      rw [show p_vokF P box key (n + 1) j = _ from if_pos (by assumption)] at hQ
      exact hQ

theorem c_Pag_vok {h : uHp} {p : Nat} {P : Nat → List Int} {box key : Int} {Q : uPs} (hP : uPag h p P) (hb : -2147483648 ≤ box ∧ box ≤ 2147483647) (hk : -2147483648 ≤ key ∧ key ≤ 2147483647) (hQ : Q (some (ui (p_vok P box key))) h) : uW mPag_valueOfKey 0 [.ref p, ui box, ui key, .null] [] h 0 0 Q := by
  refine us_iconst dPag_valueOfKey_0 ?_
  refine us_istore_3 dPag_valueOfKey_1 rfl (Nat.le_of_ble_eq_true rfl) ?_
  exact c_Pag_vok_2 hP hb hk 4 0 rfl hQ

def p_ksF (P : Nat → List Int) (box : Int) : Nat → Nat → Int → Int
  | 0, _, s => s
  | n + 1, j, s => if p_kn P box j = -1 then s else p_ksF P box n (j + 1) (orI s (shlI 1 (p_kn P box j)))
def p_ks (P : Nat → List Int) (box : Int) : Int := p_ksF P box 4 0 0
theorem c_Pag_ks_4 {h : uHp} {p : Nat} {P : Nat → List Int} {box : Int} {Q : uPs} (hP : uPag h p P) (hb : -2147483648 ≤ box ∧ box ≤ 2147483647) : ∀ (n j : Nat) (s : Int) (v : Value), n + j = 4 → Q (some (ui (p_ksF P box n j s))) h → uW mPag_keySet 4 [.ref p, ui box, ui s, ui (j : Int), v] [] h 0 0 Q := by
  intro n
  induction n with
  | zero =>
    intro j s v h1 hQ
    refine us_iload_n dPag_keySet_4 rfl ?_
    refine us_iconst dPag_keySet_5 ?_
    refine us_icmp_ge dPag_keySet_6 (by omega) (fun c21 => ?_) (fun c21 => absurd c21 (by omega))
    refine us_iload_n dPag_keySet_38 rfl ?_
    refine us_ireturn dPag_keySet_39 rfl (Nat.le_of_ble_eq_true rfl) (Nat.le_of_ble_eq_true rfl) ?_
    exact hQ
  | succ n ih =>
    intro j s v h1 hQ
    refine us_iload_n dPag_keySet_4 rfl ?_
    refine us_iconst dPag_keySet_5 ?_
    refine us_icmp_ge dPag_keySet_6 (by omega) (fun c1 => absurd c1 (by omega)) (fun c1 => ?_)
    refine us_aload_n dPag_keySet_9 rfl ?_
    refine us_iload_n dPag_keySet_10 rfl ?_
    refine us_iload_n dPag_keySet_11 rfl ?_
    refine us_v2 mPag_keyOfNote dPag_keySet_12 kV_Pag_66 hP.1 ⟨by decide, rfl, rfl, (Nat.le_of_ble_eq_true rfl), (Nat.le_of_ble_eq_true rfl)⟩ (Nat.le_of_ble_eq_true rfl) (Nat.le_of_ble_eq_true rfl) rfl ?_
    refine c_Pag_kn hP hb (by omega) ?_
    refine u_ko_1 ?_
    have hr := p_kn_rng hP box (j : Int)
    refine us_istore_4 dPag_keySet_15 rfl (Nat.le_of_ble_eq_true rfl) ?_
    refine us_iload dPag_keySet_17 rfl ?_
    refine us_iconst dPag_keySet_19 ?_
    refine us_icmp_ne dPag_keySet_20 (by omega) (fun c2 => ?_) (fun c2 => ?_)
    · skip
      refine us_iload_n dPag_keySet_25 rfl ?_
      refine us_iconst dPag_keySet_26 ?_
      refine us_iload dPag_keySet_27 rfl ?_
      refine us_ishlI dPag_keySet_29 ?_
      refine us_iorI dPag_keySet_30 ?_
      refine us_istore_2 dPag_keySet_31 rfl (Nat.le_of_ble_eq_true rfl) ?_
      refine us_iinc_3 dPag_keySet_32 rfl (Nat.le_of_ble_eq_true rfl) ?_
      refine us_goto dPag_keySet_35 ?_
      rw [show p_ksF P box (n + 1) j s = _ from if_neg (by assumption)] at hQ
      exact ih (j + 1) _ _ (by omega) hQ
    · skip
      refine us_iload_n dPag_keySet_23 rfl ?_
      refine us_ireturn dPag_keySet_24 rfl (Nat.le_of_ble_eq_true rfl) (Nat.le_of_ble_eq_true rfl) ?_
      rw [show p_ksF P box (n + 1) j s = _ from if_pos (by assumption)] at hQ
      exact hQ

theorem c_Pag_ks {h : uHp} {p : Nat} {P : Nat → List Int} {box : Int} {Q : uPs} (hP : uPag h p P) (hb : -2147483648 ≤ box ∧ box ≤ 2147483647) (hQ : Q (some (ui (p_ks P box))) h) : uW mPag_keySet 0 [.ref p, ui box, .null, .null, .null] [] h 0 0 Q := by
  refine us_iconst dPag_keySet_0 ?_
  refine us_istore_2 dPag_keySet_1 rfl (Nat.le_of_ble_eq_true rfl) ?_
  refine us_iconst dPag_keySet_2 ?_
  refine us_istore_3 dPag_keySet_3 rfl (Nat.le_of_ble_eq_true rfl) ?_
  exact c_Pag_ks_4 hP hb 4 0 0 _ rfl hQ

def p_smF (P : Nat → List Int) (box key : Int) : Nat → Nat → Int → Int
  | 0, _, s => s
  | n + 1, j, s => p_smF P box key n (j + 1) (if p_kn P box j < key then s + 1 else s)
def p_okF (P : Nat → List Int) (box : Int) (keys : Nat) : Nat → Nat → Int → Int
  | 0, _, s => s
  | n + 1, j, s => p_okF P box keys n (j + 1) (s * ((keys : Int) - (j : Int)) + p_smF P box (p_kn P box j) n (j + 1) 0)
def p_ok (P : Nat → List Int) (box : Int) (keys : Nat) : Int := p_okF P box keys keys 0 0
theorem c_Pag_ok_29 {h : uHp} {p keys : Nat} {P : Nat → List Int} {box ord i key : Int} {Q : uPs} (hP : uPag h p P) (hb : -2147483648 ≤ box ∧ box ≤ 2147483647) (hkk : keys ≤ 100) (hk : -2147483648 ≤ key ∧ key ≤ 2147483647) {w : Int → Value} : ∀ (n j : Nat) (s : Int), n + j = keys → (∀ z : Nat, uW mPag_orderOfKeys 56 [.ref p, ui box, ui (keys : Int), ui ord, ui i, ui key, ui (p_smF P box key n j s), ui (z : Int)] [] h 0 0 Q) → uW mPag_orderOfKeys 29 [.ref p, ui box, ui (keys : Int), ui ord, ui i, ui key, ui s, ui (j : Int)] [] h 0 0 Q := by
  intro n
  induction n with
  | zero =>
    intro j s h1 hK
    refine us_iload dPag_orderOfKeys_29 rfl ?_
    refine us_iload_n dPag_orderOfKeys_31 rfl ?_
    refine us_icmp_ge dPag_orderOfKeys_32 (by omega) (fun c21 => ?_) (fun c21 => absurd c21 (by omega))
    exact hK j
  | succ n ih =>
    intro j s h1 hK
    unfold p_smF at hK
    refine us_iload dPag_orderOfKeys_29 rfl ?_
    refine us_iload_n dPag_orderOfKeys_31 rfl ?_
    refine us_icmp_ge dPag_orderOfKeys_32 (by omega) (fun c1 => absurd c1 (by omega)) (fun c1 => ?_)
    refine us_aload_n dPag_orderOfKeys_35 rfl ?_
    refine us_iload_n dPag_orderOfKeys_36 rfl ?_
    refine us_iload dPag_orderOfKeys_37 rfl ?_
    refine us_v2 mPag_keyOfNote dPag_orderOfKeys_39 kV_Pag_66 hP.1 ⟨by decide, rfl, rfl, (Nat.le_of_ble_eq_true rfl), (Nat.le_of_ble_eq_true rfl)⟩ (Nat.le_of_ble_eq_true rfl) (Nat.le_of_ble_eq_true rfl) rfl ?_
    refine c_Pag_kn hP hb (by omega) ?_
    refine u_ko_1 ?_
    have hr := p_kn_rng hP box (j : Int)
    refine us_iload dPag_orderOfKeys_42 rfl ?_
    refine us_icmp_ge dPag_orderOfKeys_44 (by omega) (fun c2 => ?_) (fun c2 => ?_)
    · skip
      rw [if_neg (by omega)] at hK
      refine us_iinc_7 dPag_orderOfKeys_50 rfl (Nat.le_of_ble_eq_true rfl) ?_
      refine us_goto dPag_orderOfKeys_53 ?_
      exact ih (j + 1) _ (by omega) hK
    · skip
      rw [if_pos (by omega)] at hK
      refine us_iinc_6 dPag_orderOfKeys_47 rfl (Nat.le_of_ble_eq_true rfl) ?_
      refine us_iinc_7 dPag_orderOfKeys_50 rfl (Nat.le_of_ble_eq_true rfl) ?_
      refine us_goto dPag_orderOfKeys_53 ?_
      exact ih (j + 1) _ (by omega) hK

theorem c_Pag_ok_5 {h : uHp} {p keys : Nat} {P : Nat → List Int} {box : Int} {Q : uPs} (hP : uPag h p P) (hb : -2147483648 ≤ box ∧ box ≤ 2147483647) (hkk : keys ≤ 100) : ∀ (n j : Nat) (s : Int) (v5 v6 v7 : Value), n + j = keys → Q (some (ui (p_okF P box keys n j s))) h → uW mPag_orderOfKeys 5 [.ref p, ui box, ui (keys : Int), ui s, ui (j : Int), v5, v6, v7] [] h 0 0 Q := by
  intro n
  induction n with
  | zero =>
    intro j s v5 v6 v7 h1 hQ
    refine us_iload dPag_orderOfKeys_5 rfl ?_
    refine us_iload_n dPag_orderOfKeys_7 rfl ?_
    refine us_icmp_ge dPag_orderOfKeys_8 (by omega) (fun c61 => ?_) (fun c61 => absurd c61 (by omega))
    refine us_iload_n dPag_orderOfKeys_72 rfl ?_
    refine us_ireturn dPag_orderOfKeys_73 rfl (Nat.le_of_ble_eq_true rfl) (Nat.le_of_ble_eq_true rfl) ?_
    exact hQ
  | succ n ih =>
    intro j s v5 v6 v7 h1 hQ
    unfold p_okF at hQ
    refine us_iload dPag_orderOfKeys_5 rfl ?_
    refine us_iload_n dPag_orderOfKeys_7 rfl ?_
    refine us_icmp_ge dPag_orderOfKeys_8 (by omega) (fun c1 => absurd c1 (by omega)) (fun c1 => ?_)
    refine us_aload_n dPag_orderOfKeys_11 rfl ?_
    refine us_iload_n dPag_orderOfKeys_12 rfl ?_
    refine us_iload dPag_orderOfKeys_13 rfl ?_
    refine us_v2 mPag_keyOfNote dPag_orderOfKeys_15 kV_Pag_66 hP.1 ⟨by decide, rfl, rfl, (Nat.le_of_ble_eq_true rfl), (Nat.le_of_ble_eq_true rfl)⟩ (Nat.le_of_ble_eq_true rfl) (Nat.le_of_ble_eq_true rfl) rfl ?_
    refine c_Pag_kn hP hb (by omega) ?_
    refine u_ko_1 ?_
    have hr := p_kn_rng hP box (j : Int)
    refine us_istore_5 dPag_orderOfKeys_18 rfl (Nat.le_of_ble_eq_true rfl) ?_
    refine us_iconst dPag_orderOfKeys_20 ?_
    refine us_istore_6 dPag_orderOfKeys_21 rfl (Nat.le_of_ble_eq_true rfl) ?_
    refine us_iload dPag_orderOfKeys_23 rfl ?_
    refine us_iconst dPag_orderOfKeys_25 ?_
    refine us_iadd dPag_orderOfKeys_26 ?_
    refine us_istore_7 dPag_orderOfKeys_27 rfl (Nat.le_of_ble_eq_true rfl) ?_
    refine c_Pag_ok_29 (w := fun _ => .null) hP hb hkk (by omega) n (j + 1) 0 (by omega) (fun z => ?_)
    refine us_iload_n dPag_orderOfKeys_56 rfl ?_
    refine us_iload_n dPag_orderOfKeys_57 rfl ?_
    refine us_iload dPag_orderOfKeys_58 rfl ?_
    refine us_isub dPag_orderOfKeys_60 ?_
    refine us_imul dPag_orderOfKeys_61 ?_
    refine us_iload dPag_orderOfKeys_62 rfl ?_
    refine us_iadd dPag_orderOfKeys_64 ?_
    refine us_istore_3 dPag_orderOfKeys_65 rfl (Nat.le_of_ble_eq_true rfl) ?_
    refine us_iinc_4 dPag_orderOfKeys_66 rfl (Nat.le_of_ble_eq_true rfl) ?_
    refine us_goto dPag_orderOfKeys_69 ?_
    exact ih (j + 1) _ _ _ _ (by omega) hQ

theorem c_Pag_ok {h : uHp} {p keys : Nat} {P : Nat → List Int} {box : Int} {Q : uPs} (hP : uPag h p P) (hb : -2147483648 ≤ box ∧ box ≤ 2147483647) (hkk : keys ≤ 100) (hQ : Q (some (ui (p_ok P box keys))) h) : uW mPag_orderOfKeys 0 [.ref p, ui box, ui (keys : Int), .null, .null, .null, .null, .null] [] h 0 0 Q := by
  refine us_iconst dPag_orderOfKeys_0 ?_
  refine us_istore_3 dPag_orderOfKeys_1 rfl (Nat.le_of_ble_eq_true rfl) ?_
  refine us_iconst dPag_orderOfKeys_2 ?_
  refine us_istore_4 dPag_orderOfKeys_3 rfl (Nat.le_of_ble_eq_true rfl) ?_
  exact c_Pag_ok_5 hP hb hkk keys 0 0 _ _ _ (by omega) hQ

def p_biF (P : Nat → List Int) (box name number : Int) : Nat → Nat → Int → Int
  | 0, _, _ => -1
  | n + 1, j, met => if ratI (P 4) j = box ∧ ratI (P 3) j = name then (if met + 1 = number then (j : Int) else p_biF P box name number n (j + 1) (met + 1)) else p_biF P box name number n (j + 1) met
def p_bi (P : Nat → List Int) (box name number : Int) : Int := p_biF P box name number (P 3).length 0 0
theorem c_Pag_bi_6 {h : uHp} {p : Nat} {P : Nat → List Int} {box name number : Int} {Q : uPs} (hP : uPag h p P) (hb : -2147483648 ≤ box ∧ box ≤ 2147483647) (hn : -2147483648 ≤ name ∧ name ≤ 2147483647) (hm : -2147483648 ≤ number ∧ number ≤ 2147483647) : ∀ (n j : Nat) (met : Int), n + j = (P 3).length → (0 ≤ met ∧ met ≤ (j : Int)) → Q (some (ui (p_biF P box name number n j met))) h → uW mPag_boxInside 6 [.ref p, ui box, ui name, ui number, ui met, ui (j : Int)] [] h 0 0 Q := by
  have hL : (P 3).length ≤ 34 := hP.r3.2.2.1
  intro n
  induction n with
  | zero =>
    intro j met h1 h2 hQ
    refine us_iload dPag_boxInside_6 rfl ?_
    refine us_aload_n dPag_boxInside_8 rfl ?_
    refine us_getf 3 3 dPag_boxInside_9 kF_Pag_26 hP.1 rfl ?_
    refine us_v0 mRow_size dPag_boxInside_12 kV_Pag_51 hP.r3.1 ⟨by decide, rfl, rfl, (Nat.le_of_ble_eq_true rfl), (Nat.le_of_ble_eq_true rfl)⟩ (Nat.le_of_ble_eq_true rfl) (Nat.le_of_ble_eq_true rfl) rfl ?_
    refine c_Row_size hP.r3 ?_
    refine u_ko_1 ?_
    refine us_icmp_ge dPag_boxInside_15 (by omega) (fun c41 => ?_) (fun c41 => absurd c41 (by omega))
    refine us_iconst dPag_boxInside_62 ?_
    refine us_ireturn dPag_boxInside_63 rfl (Nat.le_of_ble_eq_true rfl) (Nat.le_of_ble_eq_true rfl) ?_
    exact hQ
  | succ n ih =>
    intro j met h1 h2 hQ
    unfold p_biF at hQ
    refine us_iload dPag_boxInside_6 rfl ?_
    refine us_aload_n dPag_boxInside_8 rfl ?_
    refine us_getf 3 3 dPag_boxInside_9 kF_Pag_26 hP.1 rfl ?_
    refine us_v0 mRow_size dPag_boxInside_12 kV_Pag_51 hP.r3.1 ⟨by decide, rfl, rfl, (Nat.le_of_ble_eq_true rfl), (Nat.le_of_ble_eq_true rfl)⟩ (Nat.le_of_ble_eq_true rfl) (Nat.le_of_ble_eq_true rfl) rfl ?_
    refine c_Row_size hP.r3 ?_
    refine u_ko_1 ?_
    refine us_icmp_ge dPag_boxInside_15 (by omega) (fun c1 => absurd c1 (by omega)) (fun c1 => ?_)
    refine us_aload_n dPag_boxInside_18 rfl ?_
    refine us_getf 3 4 dPag_boxInside_19 kF_Pag_29 hP.1 rfl ?_
    refine us_iload dPag_boxInside_22 rfl ?_
    refine us_v1 mRow_at dPag_boxInside_24 kV_Pag_62 hP.r4.1 ⟨by decide, rfl, rfl, (Nat.le_of_ble_eq_true rfl), (Nat.le_of_ble_eq_true rfl)⟩ (Nat.le_of_ble_eq_true rfl) (Nat.le_of_ble_eq_true rfl) rfl ?_
    refine c_Row_at hP.r4 (by omega) ?_
    refine u_ko_1 ?_
    have hr := ratI_rng hP.r4 (j : Int)
    refine us_iload_n dPag_boxInside_27 rfl ?_
    refine us_icmp_ne dPag_boxInside_28 (by omega) (fun c2 => ?_) (fun c2 => ?_)
    · skip
      rw [if_neg (fun q => absurd q.1 (by assumption))] at hQ
      refine us_iinc_5 dPag_boxInside_56 rfl (Nat.le_of_ble_eq_true rfl) ?_
      refine us_goto dPag_boxInside_59 ?_
      exact ih (j + 1) _ (by omega) (by omega) hQ
    · skip
      refine us_aload_n dPag_boxInside_31 rfl ?_
      refine us_getf 3 3 dPag_boxInside_32 kF_Pag_26 hP.1 rfl ?_
      refine us_iload dPag_boxInside_35 rfl ?_
      refine us_v1 mRow_at dPag_boxInside_37 kV_Pag_62 hP.r3.1 ⟨by decide, rfl, rfl, (Nat.le_of_ble_eq_true rfl), (Nat.le_of_ble_eq_true rfl)⟩ (Nat.le_of_ble_eq_true rfl) (Nat.le_of_ble_eq_true rfl) rfl ?_
      refine c_Row_at hP.r3 (by omega) ?_
      refine u_ko_1 ?_
      have hr2 := ratI_rng hP.r3 (j : Int)
      refine us_iload_n dPag_boxInside_40 rfl ?_
      refine us_icmp_ne dPag_boxInside_41 (by omega) (fun c3 => ?_) (fun c3 => ?_)
      · skip
        rw [if_neg (fun q => absurd q.2 (by assumption))] at hQ
        refine us_iinc_5 dPag_boxInside_56 rfl (Nat.le_of_ble_eq_true rfl) ?_
        refine us_goto dPag_boxInside_59 ?_
        exact ih (j + 1) _ (by omega) (by omega) hQ
      · skip
        rw [if_pos ⟨by assumption, by assumption⟩] at hQ
        refine us_iinc_4 dPag_boxInside_44 rfl (Nat.le_of_ble_eq_true rfl) ?_
        refine us_iload dPag_boxInside_47 rfl ?_
        refine us_iload_n dPag_boxInside_49 rfl ?_
        refine us_icmp_ne dPag_boxInside_50 (by omega) (fun c4 => ?_) (fun c4 => ?_)
        · skip
          rw [if_neg (by assumption)] at hQ
          refine us_iinc_5 dPag_boxInside_56 rfl (Nat.le_of_ble_eq_true rfl) ?_
          refine us_goto dPag_boxInside_59 ?_
          exact ih (j + 1) _ (by omega) (by omega) hQ
        · skip
          rw [if_pos (by assumption)] at hQ
          refine us_iload dPag_boxInside_53 rfl ?_
          refine us_ireturn dPag_boxInside_55 rfl (Nat.le_of_ble_eq_true rfl) (Nat.le_of_ble_eq_true rfl) ?_
          exact hQ

theorem c_Pag_bi {h : uHp} {p : Nat} {P : Nat → List Int} {box name number : Int} {Q : uPs} (hP : uPag h p P) (hb : -2147483648 ≤ box ∧ box ≤ 2147483647) (hn : -2147483648 ≤ name ∧ name ≤ 2147483647) (hm : -2147483648 ≤ number ∧ number ≤ 2147483647) (hQ : Q (some (ui (p_bi P box name number))) h) : uW mPag_boxInside 0 [.ref p, ui box, ui name, ui number, .null, .null] [] h 0 0 Q := by
  refine us_iconst dPag_boxInside_0 ?_
  refine us_istore_4 dPag_boxInside_1 rfl (Nat.le_of_ble_eq_true rfl) ?_
  refine us_iconst dPag_boxInside_3 ?_
  refine us_istore_5 dPag_boxInside_4 rfl (Nat.le_of_ble_eq_true rfl) ?_
  exact c_Pag_bi_6 hP hb hn hm (P 3).length 0 0 (by omega) (by omega) hQ
end
section
/-! Codes: the four rows of a page -/
def uCod (h : uHp) (c : Nat) (C : Nat → List Int) : Prop := h.2 c = some (.inl (0, [.ref (c + 1), .ref (c + 3), .ref (c + 5), .ref (c + 7)])) ∧ uFam h (c + 1) 4 (fun _ => 100) C
theorem uCod.kept {h h' : uHp} {c lo hi : Nat} {C : Nat → List Int} (R : uCod h c C) (k : uSm lo hi h h') (d : c + 9 ≤ lo ∨ hi ≤ c) : uCod h' c C := ⟨k.at R.1 (by omega), R.2.kept k (by omega)⟩
theorem uCod.congr {h : uHp} {c : Nat} {C C' : Nat → List Int} (R : uCod h c C) (e : ∀ j, j < 4 → C j = C' j) : uCod h c C' := ⟨R.1, R.2.congr e⟩
theorem s31 : ∀ n, n < 32 → ((Int32.ofInt ((n : Nat) : Int) &&& 31).toBitVec.smod 32).toNat = n := by decide +kernel
theorem shrI_k {x : Int} {k : Nat} (hk : k < 32) (h1 : -2147483648 ≤ x) (h2 : x ≤ 2147483647) : shrI x (k : Int) = x / 2 ^ k := by
  unfold shrI
  rw [pk_shr _ _ k (s31 k hk), u_rng h1 h2, Int.shiftRight_eq_div_pow]
  norm_cast
def bcF : Nat → Int → Int → Int
  | 0, _, b => b
  | n + 1, r, b => if r ≤ 1 then b else bcF n (shrI r 1) (b + 2)
/-- the bits of a code -/
def bcI (c : Int) : Int := bcF 32 (c + 1) 1
def c_brF (C : Nat → List Int) (r : Nat) : Nat → Nat → Int → Int
  | 0, _, s => s
  | n + 1, j, s => c_brF C r n (j + 1) (s + bcI (ratI (C r) j))
def c_br (C : Nat → List Int) (r : Nat) : Int := if r = 0 then ((C 0).length : Int) * 2 else c_brF C r (C r).length 0 0
def c_baF (C : Nat → List Int) : Nat → Nat → Int → Int
  | 0, _, s => s
  | n + 1, j, s => c_baF C n (j + 1) (s + c_br C j)
def c_ba (C : Nat → List Int) : Int := c_baF C 4 0 0
theorem uCod.r0 {h : uHp} {c : Nat} {C : Nat → List Int} (R : uCod h c C) : uRow h (c + 1) 100 (C 0) := R.2 0 (by decide)
theorem uCod.s0 {h h' : uHp} {c : Nat} {C : Nat → List Int} {xs : List Int} (R : uCod h c C) (hR : uRow h' (c + 1) 100 xs) (k : uSm (c + 1) (c + 1 + 2) h h') : uCod h' c (uP C 0 xs) := ⟨k.at R.1 (by omega), R.2.set (j := 0) hR k⟩
theorem uCod.r1 {h : uHp} {c : Nat} {C : Nat → List Int} (R : uCod h c C) : uRow h (c + 3) 100 (C 1) := R.2 1 (by decide)
theorem uCod.s1 {h h' : uHp} {c : Nat} {C : Nat → List Int} {xs : List Int} (R : uCod h c C) (hR : uRow h' (c + 3) 100 xs) (k : uSm (c + 3) (c + 3 + 2) h h') : uCod h' c (uP C 1 xs) := ⟨k.at R.1 (by omega), R.2.set (j := 1) hR k⟩
theorem uCod.r2 {h : uHp} {c : Nat} {C : Nat → List Int} (R : uCod h c C) : uRow h (c + 5) 100 (C 2) := R.2 2 (by decide)
theorem uCod.s2 {h h' : uHp} {c : Nat} {C : Nat → List Int} {xs : List Int} (R : uCod h c C) (hR : uRow h' (c + 5) 100 xs) (k : uSm (c + 5) (c + 5 + 2) h h') : uCod h' c (uP C 2 xs) := ⟨k.at R.1 (by omega), R.2.set (j := 2) hR k⟩
theorem uCod.r3 {h : uHp} {c : Nat} {C : Nat → List Int} (R : uCod h c C) : uRow h (c + 7) 100 (C 3) := R.2 3 (by decide)
theorem uCod.s3 {h h' : uHp} {c : Nat} {C : Nat → List Int} {xs : List Int} (R : uCod h c C) (hR : uRow h' (c + 7) 100 xs) (k : uSm (c + 7) (c + 7 + 2) h h') : uCod h' c (uP C 3 xs) := ⟨k.at R.1 (by omega), R.2.set (j := 3) hR k⟩
theorem c_Cod_clear {h : uHp} {c : Nat} {C : Nat → List Int} {Q : uPs} (hC : uCod h c C) (hQ : ∀ h' : uHp, uCod h' c (fun _ => []) → uSm c (c + 9) h h' → Q none h') : uW mCod_clear 0 [.ref c] [] h 0 0 Q := by
  have hs : uSm c (c + 9) h h := uSm.rf
  refine us_aload_n dCod_clear_0 rfl ?_
  refine us_getf 0 0 dCod_clear_1 kF_Cod_14 hC.1 rfl ?_
  refine us_v0 mRow_clear dCod_clear_4 kV_Cod_29 hC.r0.1 ⟨by decide, rfl, rfl, (Nat.le_of_ble_eq_true rfl), (Nat.le_of_ble_eq_true rfl)⟩ (Nat.le_of_ble_eq_true rfl) (Nat.le_of_ble_eq_true rfl) rfl ?_
  refine c_Row_clear hC.r0 (fun h1 hR hs1 => ?_)
  refine u_ko_0 ?_
  have hC := hC.s0 hR hs1
  have hs := hs.tr (hs1.wd (by omega) (by omega))
  refine us_aload_n dCod_clear_7 rfl ?_
  refine us_getf 0 1 dCod_clear_8 kF_Cod_20 hC.1 rfl ?_
  refine us_v0 mRow_clear dCod_clear_11 kV_Cod_29 hC.r1.1 ⟨by decide, rfl, rfl, (Nat.le_of_ble_eq_true rfl), (Nat.le_of_ble_eq_true rfl)⟩ (Nat.le_of_ble_eq_true rfl) (Nat.le_of_ble_eq_true rfl) rfl ?_
  refine c_Row_clear hC.r1 (fun h1 hR hs1 => ?_)
  refine u_ko_0 ?_
  have hC := hC.s1 hR hs1
  have hs := hs.tr (hs1.wd (by omega) (by omega))
  refine us_aload_n dCod_clear_14 rfl ?_
  refine us_getf 0 2 dCod_clear_15 kF_Cod_23 hC.1 rfl ?_
  refine us_v0 mRow_clear dCod_clear_18 kV_Cod_29 hC.r2.1 ⟨by decide, rfl, rfl, (Nat.le_of_ble_eq_true rfl), (Nat.le_of_ble_eq_true rfl)⟩ (Nat.le_of_ble_eq_true rfl) (Nat.le_of_ble_eq_true rfl) rfl ?_
  refine c_Row_clear hC.r2 (fun h1 hR hs1 => ?_)
  refine u_ko_0 ?_
  have hC := hC.s2 hR hs1
  have hs := hs.tr (hs1.wd (by omega) (by omega))
  refine us_aload_n dCod_clear_21 rfl ?_
  refine us_getf 0 3 dCod_clear_22 kF_Cod_26 hC.1 rfl ?_
  refine us_v0 mRow_clear dCod_clear_25 kV_Cod_29 hC.r3.1 ⟨by decide, rfl, rfl, (Nat.le_of_ble_eq_true rfl), (Nat.le_of_ble_eq_true rfl)⟩ (Nat.le_of_ble_eq_true rfl) (Nat.le_of_ble_eq_true rfl) rfl ?_
  refine c_Row_clear hC.r3 (fun h1 hR hs1 => ?_)
  refine u_ko_0 ?_
  have hC := hC.s3 hR hs1
  have hs := hs.tr (hs1.wd (by omega) (by omega))
  refine us_return dCod_clear_28 rfl (Nat.le_of_ble_eq_true rfl) (Nat.le_of_ble_eq_true rfl) ?_
  exact hQ _ (hC.congr (u_lt4 rfl rfl rfl rfl)) hs

theorem c_Cod_rowAt {h : uHp} {c : Nat} {C : Nat → List Int} {Q : uPs} (hC : uCod h c C) (j : Nat) (hj : j < 4) (hQ : Q (some (.ref (c + 1 + 2 * j))) h) : uW mCod_rowAt 0 [.ref c, ui (j : Int)] [] h 0 0 Q := by
  match j, hj, hQ with
  | 0, _, hQ =>
    refine us_iload_n dCod_rowAt_0 rfl ?_
    refine us_tableIn dCod_rowAt_1 (by decide) (by decide) rfl (tg := 28) (by decide) ?_
    refine us_aload_n dCod_rowAt_28 rfl ?_
    refine us_getf 0 0 dCod_rowAt_29 kF_Cod_14 hC.1 rfl ?_
    refine us_areturn dCod_rowAt_32 rfl (Nat.le_of_ble_eq_true rfl) (Nat.le_of_ble_eq_true rfl) ?_
    exact hQ
  | 1, _, hQ =>
    refine us_iload_n dCod_rowAt_0 rfl ?_
    refine us_tableIn dCod_rowAt_1 (by decide) (by decide) rfl (tg := 33) (by decide) ?_
    refine us_aload_n dCod_rowAt_33 rfl ?_
    refine us_getf 0 1 dCod_rowAt_34 kF_Cod_20 hC.1 rfl ?_
    refine us_areturn dCod_rowAt_37 rfl (Nat.le_of_ble_eq_true rfl) (Nat.le_of_ble_eq_true rfl) ?_
    exact hQ
  | 2, _, hQ =>
    refine us_iload_n dCod_rowAt_0 rfl ?_
    refine us_tableIn dCod_rowAt_1 (by decide) (by decide) rfl (tg := 38) (by decide) ?_
    refine us_aload_n dCod_rowAt_38 rfl ?_
    refine us_getf 0 2 dCod_rowAt_39 kF_Cod_23 hC.1 rfl ?_
    refine us_areturn dCod_rowAt_42 rfl (Nat.le_of_ble_eq_true rfl) (Nat.le_of_ble_eq_true rfl) ?_
    exact hQ
  | 3, _, hQ =>
    refine us_iload_n dCod_rowAt_0 rfl ?_
    refine us_tableOut dCod_rowAt_1 (by decide) (by decide) (tg := 43) (by decide) ?_
    refine us_aload_n dCod_rowAt_43 rfl ?_
    refine us_getf 0 3 dCod_rowAt_44 kF_Cod_26 hC.1 rfl ?_
    refine us_areturn dCod_rowAt_47 rfl (Nat.le_of_ble_eq_true rfl) (Nat.le_of_ble_eq_true rfl) ?_
    exact hQ

theorem c_Cod_bc_6 {h : uHp} {c0 : Int} {Q : uPs} : ∀ (n : Nat) (r b : Int), r < 2 ^ n → (-2147483648 ≤ r ∧ r ≤ 2147483647) → Q (some (ui (bcF n r b))) h → uW mCod_bitsOfCode 6 [ui c0, ui b, ui r] [] h 0 0 Q := by
  intro n
  induction n with
  | zero =>
    intro r b h1 h2 hQ
    refine us_iload_n dCod_bitsOfCode_6 rfl ?_
    refine us_iconst dCod_bitsOfCode_7 ?_
    refine us_icmp_le dCod_bitsOfCode_8 (by omega) (fun c21 => ?_) (fun c21 => absurd (by assumption) (by simp at h1; omega))
    refine us_iload_n dCod_bitsOfCode_21 rfl ?_
    refine us_ireturn dCod_bitsOfCode_22 rfl (Nat.le_of_ble_eq_true rfl) (Nat.le_of_ble_eq_true rfl) ?_
    exact hQ
  | succ n ih =>
    intro r b h1 h2 hQ
    unfold bcF at hQ
    refine us_iload_n dCod_bitsOfCode_6 rfl ?_
    refine us_iconst dCod_bitsOfCode_7 ?_
    refine us_icmp_le dCod_bitsOfCode_8 (by omega) (fun c1 => ?_) (fun c1 => ?_)
    · skip
      rw [if_pos (by assumption)] at hQ
      refine us_iload_n dCod_bitsOfCode_21 rfl ?_
      refine us_ireturn dCod_bitsOfCode_22 rfl (Nat.le_of_ble_eq_true rfl) (Nat.le_of_ble_eq_true rfl) ?_
      exact hQ
    · skip
      rw [if_neg (by omega)] at hQ
      refine us_iinc_1 dCod_bitsOfCode_11 rfl (Nat.le_of_ble_eq_true rfl) ?_
      refine us_iload_n dCod_bitsOfCode_14 rfl ?_
      refine us_iconst dCod_bitsOfCode_15 ?_
      refine us_ishrI dCod_bitsOfCode_16 ?_
      refine us_istore_2 dCod_bitsOfCode_17 rfl (Nat.le_of_ble_eq_true rfl) ?_
      refine us_goto dCod_bitsOfCode_18 ?_
      have e1 : shrI r 1 = r / 2 := shrI_k (k := 1) (by decide) (by omega) (by omega)
      refine ih _ _ ?_ (by omega) hQ
      rw [e1]
      have : (2 : Int) ^ (n + 1) = 2 * 2 ^ n := by rw [Int.pow_succ]; omega
      omega

theorem c_Cod_bc {h : uHp} {c : Int} {Q : uPs} (hc : -1000000 ≤ c ∧ c ≤ 1000000) (hQ : Q (some (ui (bcI c))) h) : uW mCod_bitsOfCode 0 [ui c, .null, .null] [] h 0 0 Q := by
  refine us_iconst dCod_bitsOfCode_0 ?_
  refine us_istore_1 dCod_bitsOfCode_1 rfl (Nat.le_of_ble_eq_true rfl) ?_
  refine us_iload_n dCod_bitsOfCode_2 rfl ?_
  refine us_iconst dCod_bitsOfCode_3 ?_
  refine us_iadd dCod_bitsOfCode_4 ?_
  refine us_istore_2 dCod_bitsOfCode_5 rfl (Nat.le_of_ble_eq_true rfl) ?_
  exact c_Cod_bc_6 32 (c + 1) 1 (by omega) (by omega) hQ

theorem c_Cod_br_25 {h : uHp} {c r : Nat} {i : Int} {C : Nat → List Int} {Q : uPs} (hC : uCod h c C) (hr : r < 4) : ∀ (n j : Nat) (s : Int), n + j = (C r).length → Q (some (ui (c_brF C r n j s))) h → uW mCod_bitsOfRow 25 [.ref c, ui i, .ref (c + 1 + 2 * r), ui s, ui (j : Int)] [] h 0 0 Q := by
  have hR : uRow h (c + 1 + 2 * r) 100 (C r) := hC.2 r hr
  have hL : (C r).length ≤ 100 := hR.2.2.1
  intro n
  induction n with
  | zero =>
    intro j s h1 hQ
    refine us_iload dCod_bitsOfRow_25 rfl ?_
    refine us_aload_n dCod_bitsOfRow_27 rfl ?_
    refine us_v0 mRow_size dCod_bitsOfRow_28 kV_Cod_32 hR.1 ⟨by decide, rfl, rfl, (Nat.le_of_ble_eq_true rfl), (Nat.le_of_ble_eq_true rfl)⟩ (Nat.le_of_ble_eq_true rfl) (Nat.le_of_ble_eq_true rfl) rfl ?_
    refine c_Row_size hR ?_
    refine u_ko_1 ?_
    refine us_icmp_ge dCod_bitsOfRow_31 (by omega) (fun c21 => ?_) (fun c21 => absurd c21 (by omega))
    refine us_iload_n dCod_bitsOfRow_52 rfl ?_
    refine us_ireturn dCod_bitsOfRow_53 rfl (Nat.le_of_ble_eq_true rfl) (Nat.le_of_ble_eq_true rfl) ?_
    exact hQ
  | succ n ih =>
    intro j s h1 hQ
    unfold c_brF at hQ
    refine us_iload dCod_bitsOfRow_25 rfl ?_
    refine us_aload_n dCod_bitsOfRow_27 rfl ?_
    refine us_v0 mRow_size dCod_bitsOfRow_28 kV_Cod_32 hR.1 ⟨by decide, rfl, rfl, (Nat.le_of_ble_eq_true rfl), (Nat.le_of_ble_eq_true rfl)⟩ (Nat.le_of_ble_eq_true rfl) (Nat.le_of_ble_eq_true rfl) rfl ?_
    refine c_Row_size hR ?_
    refine u_ko_1 ?_
    refine us_icmp_ge dCod_bitsOfRow_31 (by omega) (fun c1 => absurd c1 (by omega)) (fun c1 => ?_)
    refine us_iload_n dCod_bitsOfRow_34 rfl ?_
    refine us_aload_n dCod_bitsOfRow_35 rfl ?_
    refine us_iload dCod_bitsOfRow_36 rfl ?_
    refine us_v1 mRow_at dCod_bitsOfRow_38 kV_Cod_40 hR.1 ⟨by decide, rfl, rfl, (Nat.le_of_ble_eq_true rfl), (Nat.le_of_ble_eq_true rfl)⟩ (Nat.le_of_ble_eq_true rfl) (Nat.le_of_ble_eq_true rfl) rfl ?_
    refine c_Row_at hR (by omega) ?_
    refine u_ko_1 ?_
    refine us_s1 mCod_bitsOfCode dCod_bitsOfRow_41 kS_Cod_44 ⟨by decide, rfl, rfl, (Nat.le_of_ble_eq_true rfl), (Nat.le_of_ble_eq_true rfl)⟩ (Nat.le_of_ble_eq_true rfl) (Nat.le_of_ble_eq_true rfl) rfl ?_
    refine c_Cod_bc (ratI_rng hR _) ?_
    refine u_ko_1 ?_
    refine us_iadd dCod_bitsOfRow_44 ?_
    refine us_istore_3 dCod_bitsOfRow_45 rfl (Nat.le_of_ble_eq_true rfl) ?_
    refine us_iinc_4 dCod_bitsOfRow_46 rfl (Nat.le_of_ble_eq_true rfl) ?_
    refine us_goto dCod_bitsOfRow_49 ?_
    exact ih (j + 1) _ (by omega) hQ

theorem c_Cod_br {h : uHp} {c : Nat} {C : Nat → List Int} {Q : uPs} (hC : uCod h c C) (r : Nat) (hr : r < 4) (hQ : Q (some (ui (c_br C r))) h) : uW mCod_bitsOfRow 0 [.ref c, ui (r : Int), .null, .null, .null] [] h 0 0 Q := by
  refine us_iload_n dCod_bitsOfRow_0 rfl ?_
  refine us_if_ne dCod_bitsOfRow_1 (by omega) (fun c1 => ?_) (fun c1 => ?_)
  · skip
    rw [show c_br C r = _ from if_neg (by omega)] at hQ
    refine us_aload_n dCod_bitsOfRow_14 rfl ?_
    refine us_iload_n dCod_bitsOfRow_15 rfl ?_
    refine us_v1 mCod_rowAt dCod_bitsOfRow_16 kV_Cod_36 hC.1 ⟨by decide, rfl, rfl, (Nat.le_of_ble_eq_true rfl), (Nat.le_of_ble_eq_true rfl)⟩ (Nat.le_of_ble_eq_true rfl) (Nat.le_of_ble_eq_true rfl) rfl ?_
    refine c_Cod_rowAt hC r hr ?_
    refine u_ko_1 ?_
    refine us_astore_2 dCod_bitsOfRow_19 rfl (Nat.le_of_ble_eq_true rfl) ?_
    refine us_iconst dCod_bitsOfRow_20 ?_
    refine us_istore_3 dCod_bitsOfRow_21 rfl (Nat.le_of_ble_eq_true rfl) ?_
    refine us_iconst dCod_bitsOfRow_22 ?_
    refine us_istore_4 dCod_bitsOfRow_23 rfl (Nat.le_of_ble_eq_true rfl) ?_
    exact c_Cod_br_25 hC hr (C r).length 0 0 (by omega) hQ
  · skip
    rw [show c_br C r = _ from if_pos (by omega)] at hQ
    refine us_aload_n dCod_bitsOfRow_4 rfl ?_
    refine us_getf 0 0 dCod_bitsOfRow_5 kF_Cod_14 hC.1 rfl ?_
    refine us_v0 mRow_size dCod_bitsOfRow_8 kV_Cod_32 hC.r0.1 ⟨by decide, rfl, rfl, (Nat.le_of_ble_eq_true rfl), (Nat.le_of_ble_eq_true rfl)⟩ (Nat.le_of_ble_eq_true rfl) (Nat.le_of_ble_eq_true rfl) rfl ?_
    refine c_Row_size hC.r0 ?_
    refine u_ko_1 ?_
    refine us_iconst dCod_bitsOfRow_11 ?_
    refine us_imul dCod_bitsOfRow_12 ?_
    refine us_ireturn dCod_bitsOfRow_13 rfl (Nat.le_of_ble_eq_true rfl) (Nat.le_of_ble_eq_true rfl) ?_
    exact hQ

theorem c_Cod_ba_4 {h : uHp} {c : Nat} {C : Nat → List Int} {Q : uPs} (hC : uCod h c C) : ∀ (n j : Nat) (s : Int), n + j = 4 → Q (some (ui (c_baF C n j s))) h → uW mCod_bitsOfAll 4 [.ref c, ui s, ui (j : Int)] [] h 0 0 Q := by
  intro n
  induction n with
  | zero =>
    intro j s h1 hQ
    refine us_iload_n dCod_bitsOfAll_4 rfl ?_
    refine us_iconst dCod_bitsOfAll_5 ?_
    refine us_icmp_ge dCod_bitsOfAll_6 (by omega) (fun c21 => ?_) (fun c21 => absurd c21 (by omega))
    refine us_iload_n dCod_bitsOfAll_23 rfl ?_
    refine us_ireturn dCod_bitsOfAll_24 rfl (Nat.le_of_ble_eq_true rfl) (Nat.le_of_ble_eq_true rfl) ?_
    exact hQ
  | succ n ih =>
    intro j s h1 hQ
    unfold c_baF at hQ
    refine us_iload_n dCod_bitsOfAll_4 rfl ?_
    refine us_iconst dCod_bitsOfAll_5 ?_
    refine us_icmp_ge dCod_bitsOfAll_6 (by omega) (fun c1 => absurd c1 (by omega)) (fun c1 => ?_)
    refine us_iload_n dCod_bitsOfAll_9 rfl ?_
    refine us_aload_n dCod_bitsOfAll_10 rfl ?_
    refine us_iload_n dCod_bitsOfAll_11 rfl ?_
    refine us_v1 mCod_bitsOfRow dCod_bitsOfAll_12 kV_Cod_47 hC.1 ⟨by decide, rfl, rfl, (Nat.le_of_ble_eq_true rfl), (Nat.le_of_ble_eq_true rfl)⟩ (Nat.le_of_ble_eq_true rfl) (Nat.le_of_ble_eq_true rfl) rfl ?_
    refine c_Cod_br hC j (by omega) ?_
    refine u_ko_1 ?_
    refine us_iadd dCod_bitsOfAll_15 ?_
    refine us_istore_1 dCod_bitsOfAll_16 rfl (Nat.le_of_ble_eq_true rfl) ?_
    refine us_iinc_2 dCod_bitsOfAll_17 rfl (Nat.le_of_ble_eq_true rfl) ?_
    refine us_goto dCod_bitsOfAll_20 ?_
    exact ih (j + 1) _ (by omega) hQ

theorem c_Cod_ba {h : uHp} {c : Nat} {C : Nat → List Int} {Q : uPs} (hC : uCod h c C) (hQ : Q (some (ui (c_ba C))) h) : uW mCod_bitsOfAll 0 [.ref c, .null, .null] [] h 0 0 Q := by
  refine us_iconst dCod_bitsOfAll_0 ?_
  refine us_istore_1 dCod_bitsOfAll_1 rfl (Nat.le_of_ble_eq_true rfl) ?_
  refine us_iconst dCod_bitsOfAll_2 ?_
  refine us_istore_2 dCod_bitsOfAll_3 rfl (Nat.le_of_ble_eq_true rfl) ?_
  exact c_Cod_ba_4 hC 4 0 0 rfl hQ
end
