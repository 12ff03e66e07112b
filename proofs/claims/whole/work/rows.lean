section
/-- a private method of a class that the tables say can be made, by its rows of tables_1 -/
def lw_okq (q : MethodName × Nat) : Prop := (q.1.cls ≠ "java/lang/invoke/MethodHandle" ∧ q.1.cls ≠ "java/lang/invoke/VarHandle") ∧ Cond.instantiable q.1.cls q.2 ∈ tables_1 ∧ Cond.privateMethod q.1 ∈ tables_1 ∧ Cond.instanceMethod q.1 ∈ tables_1
theorem lw_p0 : lw_okq (⟨"UnmarkedPages", "recordState", "()V"⟩, 12) := ⟨⟨by decide +kernel, by decide +kernel⟩, List.mem_of_getElem? (i := 14) (by decide +kernel), List.mem_of_getElem? (i := 287) (by decide +kernel), List.mem_of_getElem? (i := 288) (by decide +kernel)⟩
theorem lw_p1 : lw_okq (⟨"UnmarkedPages$Reader", "take", "(IILUnmarkedPages$State;)V"⟩, 7) := ⟨⟨by decide +kernel, by decide +kernel⟩, List.mem_of_getElem? (i := 39) (by decide +kernel), List.mem_of_getElem? (i := 357) (by decide +kernel), List.mem_of_getElem? (i := 358) (by decide +kernel)⟩
theorem lw_p2 : lw_okq (⟨"UnmarkedPages$Reader", "expect", "(ZII)V"⟩, 7) := ⟨⟨by decide +kernel, by decide +kernel⟩, List.mem_of_getElem? (i := 39) (by decide +kernel), List.mem_of_getElem? (i := 361) (by decide +kernel), List.mem_of_getElem? (i := 362) (by decide +kernel)⟩
theorem lw_p3 : lw_okq (⟨"UnmarkedPages$Reader", "tell", "(III)V"⟩, 7) := ⟨⟨by decide +kernel, by decide +kernel⟩, List.mem_of_getElem? (i := 39) (by decide +kernel), List.mem_of_getElem? (i := 365) (by decide +kernel), List.mem_of_getElem? (i := 366) (by decide +kernel)⟩
theorem lw_p4 : lw_okq (⟨"UnmarkedPages$Reader", "takeBehindMark", "(IILUnmarkedPages$State;)V"⟩, 7) := ⟨⟨by decide +kernel, by decide +kernel⟩, List.mem_of_getElem? (i := 39) (by decide +kernel), List.mem_of_getElem? (i := 369) (by decide +kernel), List.mem_of_getElem? (i := 370) (by decide +kernel)⟩
theorem lw_p5 : lw_okq (⟨"UnmarkedPages$Reader", "openBox", "(IILUnmarkedPages$State;)V"⟩, 7) := ⟨⟨by decide +kernel, by decide +kernel⟩, List.mem_of_getElem? (i := 39) (by decide +kernel), List.mem_of_getElem? (i := 376) (by decide +kernel), List.mem_of_getElem? (i := 377) (by decide +kernel)⟩
theorem lw_p6 : lw_okq (⟨"UnmarkedPages$Reader", "latestName", "()I"⟩, 7) := ⟨⟨by decide +kernel, by decide +kernel⟩, List.mem_of_getElem? (i := 39) (by decide +kernel), List.mem_of_getElem? (i := 380) (by decide +kernel), List.mem_of_getElem? (i := 381) (by decide +kernel)⟩
theorem lw_p7 : lw_okq (⟨"UnmarkedPages$Reader", "close", "(I)V"⟩, 7) := ⟨⟨by decide +kernel, by decide +kernel⟩, List.mem_of_getElem? (i := 39) (by decide +kernel), List.mem_of_getElem? (i := 389) (by decide +kernel), List.mem_of_getElem? (i := 390) (by decide +kernel)⟩
theorem lw_p8 : lw_okq (⟨"UnmarkedPages$Reader", "takeKey", "(II)V"⟩, 7) := ⟨⟨by decide +kernel, by decide +kernel⟩, List.mem_of_getElem? (i := 39) (by decide +kernel), List.mem_of_getElem? (i := 403) (by decide +kernel), List.mem_of_getElem? (i := 404) (by decide +kernel)⟩
theorem lw_p9 : lw_okq (⟨"UnmarkedPages$Reader", "takeInBox", "(II)V"⟩, 7) := ⟨⟨by decide +kernel, by decide +kernel⟩, List.mem_of_getElem? (i := 39) (by decide +kernel), List.mem_of_getElem? (i := 408) (by decide +kernel), List.mem_of_getElem? (i := 409) (by decide +kernel)⟩
theorem lw_p10 : lw_okq (⟨"UnmarkedPages$Reader", "takeClosingName", "(IILUnmarkedPages$State;)V"⟩, 7) := ⟨⟨by decide +kernel, by decide +kernel⟩, List.mem_of_getElem? (i := 39) (by decide +kernel), List.mem_of_getElem? (i := 423) (by decide +kernel), List.mem_of_getElem? (i := 424) (by decide +kernel)⟩
theorem lw_p11 : lw_okq (⟨"UnmarkedPages$Reader", "isEndedByClosing", "(ILUnmarkedPages$State;)Z"⟩, 7) := ⟨⟨by decide +kernel, by decide +kernel⟩, List.mem_of_getElem? (i := 39) (by decide +kernel), List.mem_of_getElem? (i := 427) (by decide +kernel), List.mem_of_getElem? (i := 428) (by decide +kernel)⟩
theorem lw_p12 : lw_okq (⟨"UnmarkedPages$Reader", "takeClosingEnd", "(II)V"⟩, 7) := ⟨⟨by decide +kernel, by decide +kernel⟩, List.mem_of_getElem? (i := 39) (by decide +kernel), List.mem_of_getElem? (i := 431) (by decide +kernel), List.mem_of_getElem? (i := 432) (by decide +kernel)⟩
theorem lw_p13 : lw_okq (⟨"UnmarkedPages", "codesOf", "(I)LUnmarkedPages$Codes;"⟩, 12) := ⟨⟨by decide +kernel, by decide +kernel⟩, List.mem_of_getElem? (i := 14) (by decide +kernel), List.mem_of_getElem? (i := 439) (by decide +kernel), List.mem_of_getElem? (i := 440) (by decide +kernel)⟩
theorem lw_p14 : lw_okq (⟨"UnmarkedPages$Known", "takeName", "(LUnmarkedPages$Page;ILUnmarkedPages$Row;)V"⟩, 4) := ⟨⟨by decide +kernel, by decide +kernel⟩, List.mem_of_getElem? (i := 170) (by decide +kernel), List.mem_of_getElem? (i := 455) (by decide +kernel), List.mem_of_getElem? (i := 456) (by decide +kernel)⟩
theorem lw_p15 : lw_okq (⟨"UnmarkedPages$Known", "takeNotes", "(LUnmarkedPages$Page;ILUnmarkedPages$Row;)V"⟩, 4) := ⟨⟨by decide +kernel, by decide +kernel⟩, List.mem_of_getElem? (i := 170) (by decide +kernel), List.mem_of_getElem? (i := 478) (by decide +kernel), List.mem_of_getElem? (i := 479) (by decide +kernel)⟩
def lw_privs_1 : List (MethodName × Nat) := [(⟨"UnmarkedPages", "recordState", "()V"⟩, 12), (⟨"UnmarkedPages$Reader", "take", "(IILUnmarkedPages$State;)V"⟩, 7), (⟨"UnmarkedPages$Reader", "expect", "(ZII)V"⟩, 7), (⟨"UnmarkedPages$Reader", "tell", "(III)V"⟩, 7), (⟨"UnmarkedPages$Reader", "takeBehindMark", "(IILUnmarkedPages$State;)V"⟩, 7), (⟨"UnmarkedPages$Reader", "openBox", "(IILUnmarkedPages$State;)V"⟩, 7), (⟨"UnmarkedPages$Reader", "latestName", "()I"⟩, 7), (⟨"UnmarkedPages$Reader", "close", "(I)V"⟩, 7), (⟨"UnmarkedPages$Reader", "takeKey", "(II)V"⟩, 7), (⟨"UnmarkedPages$Reader", "takeInBox", "(II)V"⟩, 7), (⟨"UnmarkedPages$Reader", "takeClosingName", "(IILUnmarkedPages$State;)V"⟩, 7), (⟨"UnmarkedPages$Reader", "isEndedByClosing", "(ILUnmarkedPages$State;)Z"⟩, 7), (⟨"UnmarkedPages$Reader", "takeClosingEnd", "(II)V"⟩, 7), (⟨"UnmarkedPages", "codesOf", "(I)LUnmarkedPages$Codes;"⟩, 12), (⟨"UnmarkedPages$Known", "takeName", "(LUnmarkedPages$Page;ILUnmarkedPages$Row;)V"⟩, 4), (⟨"UnmarkedPages$Known", "takeNotes", "(LUnmarkedPages$Page;ILUnmarkedPages$Row;)V"⟩, 4)]
theorem lw_r1 : ∀ q ∈ lw_privs_1, lw_okq q := List.forall_mem_cons.mpr ⟨lw_p0, List.forall_mem_cons.mpr ⟨lw_p1, List.forall_mem_cons.mpr ⟨lw_p2, List.forall_mem_cons.mpr ⟨lw_p3, List.forall_mem_cons.mpr ⟨lw_p4, List.forall_mem_cons.mpr ⟨lw_p5, List.forall_mem_cons.mpr ⟨lw_p6, List.forall_mem_cons.mpr ⟨lw_p7, List.forall_mem_cons.mpr ⟨lw_p8, List.forall_mem_cons.mpr ⟨lw_p9, List.forall_mem_cons.mpr ⟨lw_p10, List.forall_mem_cons.mpr ⟨lw_p11, List.forall_mem_cons.mpr ⟨lw_p12, List.forall_mem_cons.mpr ⟨lw_p13, List.forall_mem_cons.mpr ⟨lw_p14, List.forall_mem_cons.mpr ⟨lw_p15, fun _ h => absurd h List.not_mem_nil⟩⟩⟩⟩⟩⟩⟩⟩⟩⟩⟩⟩⟩⟩⟩⟩
theorem lw_p16 : lw_okq (⟨"UnmarkedPages$Known", "takeValue", "(IIILUnmarkedPages$Row;)V"⟩, 4) := ⟨⟨by decide +kernel, by decide +kernel⟩, List.mem_of_getElem? (i := 170) (by decide +kernel), List.mem_of_getElem? (i := 496) (by decide +kernel), List.mem_of_getElem? (i := 497) (by decide +kernel)⟩
theorem lw_p17 : lw_okq (⟨"UnmarkedPages$Known", "takeWord", "(LUnmarkedPages$Page;ILUnmarkedPages$Row;)V"⟩, 4) := ⟨⟨by decide +kernel, by decide +kernel⟩, List.mem_of_getElem? (i := 170) (by decide +kernel), List.mem_of_getElem? (i := 515) (by decide +kernel), List.mem_of_getElem? (i := 516) (by decide +kernel)⟩
theorem lw_p18 : lw_okq (⟨"UnmarkedPages", "packAnew", "()V"⟩, 12) := ⟨⟨by decide +kernel, by decide +kernel⟩, List.mem_of_getElem? (i := 14) (by decide +kernel), List.mem_of_getElem? (i := 542) (by decide +kernel), List.mem_of_getElem? (i := 543) (by decide +kernel)⟩
theorem lw_p19 : lw_okq (⟨"UnmarkedPages", "bitsOfAllPages", "()I"⟩, 12) := ⟨⟨by decide +kernel, by decide +kernel⟩, List.mem_of_getElem? (i := 14) (by decide +kernel), List.mem_of_getElem? (i := 563) (by decide +kernel), List.mem_of_getElem? (i := 564) (by decide +kernel)⟩
theorem lw_p20 : lw_okq (⟨"UnmarkedPages$PathReader", "takes", "(I)Z"⟩, 3) := ⟨⟨by decide +kernel, by decide +kernel⟩, List.mem_of_getElem? (i := 125) (by decide +kernel), List.mem_of_getElem? (i := 628) (by decide +kernel), List.mem_of_getElem? (i := 629) (by decide +kernel)⟩
theorem lw_p21 : lw_okq (⟨"UnmarkedPages", "toldOfBox", "(LUnmarkedPages$Page;II)I"⟩, 12) := ⟨⟨by decide +kernel, by decide +kernel⟩, List.mem_of_getElem? (i := 14) (by decide +kernel), List.mem_of_getElem? (i := 643) (by decide +kernel), List.mem_of_getElem? (i := 644) (by decide +kernel)⟩
theorem lw_p22 : lw_okq (⟨"UnmarkedPagesModel", "record", "()V"⟩, 32) := ⟨⟨by decide +kernel, by decide +kernel⟩, List.mem_of_getElem? (i := 685) (by decide +kernel), List.mem_of_getElem? (i := 799) (by decide +kernel), List.mem_of_getElem? (i := 800) (by decide +kernel)⟩
theorem lw_p23 : lw_okq (⟨"UnmarkedPagesModel", "rules", "()I"⟩, 32) := ⟨⟨by decide +kernel, by decide +kernel⟩, List.mem_of_getElem? (i := 685) (by decide +kernel), List.mem_of_getElem? (i := 803) (by decide +kernel), List.mem_of_getElem? (i := 804) (by decide +kernel)⟩
theorem lw_p24 : lw_okq (⟨"UnmarkedPagesModel", "takesText", "()V"⟩, 32) := ⟨⟨by decide +kernel, by decide +kernel⟩, List.mem_of_getElem? (i := 685) (by decide +kernel), List.mem_of_getElem? (i := 811) (by decide +kernel), List.mem_of_getElem? (i := 812) (by decide +kernel)⟩
theorem lw_p25 : lw_okq (⟨"UnmarkedPagesModel", "isPage", "()Z"⟩, 32) := ⟨⟨by decide +kernel, by decide +kernel⟩, List.mem_of_getElem? (i := 685) (by decide +kernel), List.mem_of_getElem? (i := 815) (by decide +kernel), List.mem_of_getElem? (i := 816) (by decide +kernel)⟩
theorem lw_p26 : lw_okq (⟨"UnmarkedPagesModel", "isAt", "(III)Z"⟩, 32) := ⟨⟨by decide +kernel, by decide +kernel⟩, List.mem_of_getElem? (i := 685) (by decide +kernel), List.mem_of_getElem? (i := 819) (by decide +kernel), List.mem_of_getElem? (i := 820) (by decide +kernel)⟩
theorem lw_p27 : lw_okq (⟨"UnmarkedPagesModel", "readWord", "(I)I"⟩, 32) := ⟨⟨by decide +kernel, by decide +kernel⟩, List.mem_of_getElem? (i := 685) (by decide +kernel), List.mem_of_getElem? (i := 823) (by decide +kernel), List.mem_of_getElem? (i := 824) (by decide +kernel)⟩
theorem lw_p28 : lw_okq (⟨"UnmarkedPagesModel", "fails", "(III)Z"⟩, 32) := ⟨⟨by decide +kernel, by decide +kernel⟩, List.mem_of_getElem? (i := 685) (by decide +kernel), List.mem_of_getElem? (i := 827) (by decide +kernel), List.mem_of_getElem? (i := 828) (by decide +kernel)⟩
theorem lw_p29 : lw_okq (⟨"UnmarkedPagesModel", "box", "(II)I"⟩, 32) := ⟨⟨by decide +kernel, by decide +kernel⟩, List.mem_of_getElem? (i := 685) (by decide +kernel), List.mem_of_getElem? (i := 831) (by decide +kernel), List.mem_of_getElem? (i := 832) (by decide +kernel)⟩
theorem lw_p30 : lw_okq (⟨"UnmarkedPagesModel", "boxes", "(III)V"⟩, 32) := ⟨⟨by decide +kernel, by decide +kernel⟩, List.mem_of_getElem? (i := 685) (by decide +kernel), List.mem_of_getElem? (i := 835) (by decide +kernel), List.mem_of_getElem? (i := 836) (by decide +kernel)⟩
theorem lw_p31 : lw_okq (⟨"UnmarkedPagesModel", "steps", "(II)V"⟩, 32) := ⟨⟨by decide +kernel, by decide +kernel⟩, List.mem_of_getElem? (i := 685) (by decide +kernel), List.mem_of_getElem? (i := 839) (by decide +kernel), List.mem_of_getElem? (i := 840) (by decide +kernel)⟩
def lw_privs_2 : List (MethodName × Nat) := [(⟨"UnmarkedPages$Known", "takeValue", "(IIILUnmarkedPages$Row;)V"⟩, 4), (⟨"UnmarkedPages$Known", "takeWord", "(LUnmarkedPages$Page;ILUnmarkedPages$Row;)V"⟩, 4), (⟨"UnmarkedPages", "packAnew", "()V"⟩, 12), (⟨"UnmarkedPages", "bitsOfAllPages", "()I"⟩, 12), (⟨"UnmarkedPages$PathReader", "takes", "(I)Z"⟩, 3), (⟨"UnmarkedPages", "toldOfBox", "(LUnmarkedPages$Page;II)I"⟩, 12), (⟨"UnmarkedPagesModel", "record", "()V"⟩, 32), (⟨"UnmarkedPagesModel", "rules", "()I"⟩, 32), (⟨"UnmarkedPagesModel", "takesText", "()V"⟩, 32), (⟨"UnmarkedPagesModel", "isPage", "()Z"⟩, 32), (⟨"UnmarkedPagesModel", "isAt", "(III)Z"⟩, 32), (⟨"UnmarkedPagesModel", "readWord", "(I)I"⟩, 32), (⟨"UnmarkedPagesModel", "fails", "(III)Z"⟩, 32), (⟨"UnmarkedPagesModel", "box", "(II)I"⟩, 32), (⟨"UnmarkedPagesModel", "boxes", "(III)V"⟩, 32), (⟨"UnmarkedPagesModel", "steps", "(II)V"⟩, 32)]
theorem lw_r2 : ∀ q ∈ lw_privs_2, lw_okq q := List.forall_mem_cons.mpr ⟨lw_p16, List.forall_mem_cons.mpr ⟨lw_p17, List.forall_mem_cons.mpr ⟨lw_p18, List.forall_mem_cons.mpr ⟨lw_p19, List.forall_mem_cons.mpr ⟨lw_p20, List.forall_mem_cons.mpr ⟨lw_p21, List.forall_mem_cons.mpr ⟨lw_p22, List.forall_mem_cons.mpr ⟨lw_p23, List.forall_mem_cons.mpr ⟨lw_p24, List.forall_mem_cons.mpr ⟨lw_p25, List.forall_mem_cons.mpr ⟨lw_p26, List.forall_mem_cons.mpr ⟨lw_p27, List.forall_mem_cons.mpr ⟨lw_p28, List.forall_mem_cons.mpr ⟨lw_p29, List.forall_mem_cons.mpr ⟨lw_p30, List.forall_mem_cons.mpr ⟨lw_p31, fun _ h => absurd h List.not_mem_nil⟩⟩⟩⟩⟩⟩⟩⟩⟩⟩⟩⟩⟩⟩⟩⟩
theorem lw_p32 : lw_okq (⟨"UnmarkedPagesModel", "closes", "(I)I"⟩, 32) := ⟨⟨by decide +kernel, by decide +kernel⟩, List.mem_of_getElem? (i := 685) (by decide +kernel), List.mem_of_getElem? (i := 843) (by decide +kernel), List.mem_of_getElem? (i := 844) (by decide +kernel)⟩
theorem lw_p33 : lw_okq (⟨"UnmarkedPagesModel", "implies", "(IZ)V"⟩, 32) := ⟨⟨by decide +kernel, by decide +kernel⟩, List.mem_of_getElem? (i := 685) (by decide +kernel), List.mem_of_getElem? (i := 847) (by decide +kernel), List.mem_of_getElem? (i := 848) (by decide +kernel)⟩
theorem lw_p34 : lw_okq (⟨"UnmarkedPagesModel", "opens", "(I)I"⟩, 32) := ⟨⟨by decide +kernel, by decide +kernel⟩, List.mem_of_getElem? (i := 685) (by decide +kernel), List.mem_of_getElem? (i := 851) (by decide +kernel), List.mem_of_getElem? (i := 852) (by decide +kernel)⟩
theorem lw_p35 : lw_okq (⟨"UnmarkedPagesModel", "readNotes", "(II)I"⟩, 32) := ⟨⟨by decide +kernel, by decide +kernel⟩, List.mem_of_getElem? (i := 685) (by decide +kernel), List.mem_of_getElem? (i := 855) (by decide +kernel), List.mem_of_getElem? (i := 856) (by decide +kernel)⟩
theorem lw_p36 : lw_okq (⟨"UnmarkedPagesModel", "packsUpTo", "(I)V"⟩, 32) := ⟨⟨by decide +kernel, by decide +kernel⟩, List.mem_of_getElem? (i := 685) (by decide +kernel), List.mem_of_getElem? (i := 862) (by decide +kernel), List.mem_of_getElem? (i := 863) (by decide +kernel)⟩
theorem lw_p37 : lw_okq (⟨"UnmarkedPagesModel", "forgets", "()V"⟩, 32) := ⟨⟨by decide +kernel, by decide +kernel⟩, List.mem_of_getElem? (i := 685) (by decide +kernel), List.mem_of_getElem? (i := 866) (by decide +kernel), List.mem_of_getElem? (i := 867) (by decide +kernel)⟩
theorem lw_p38 : lw_okq (⟨"UnmarkedPagesModel", "takesPage", "(I)V"⟩, 32) := ⟨⟨by decide +kernel, by decide +kernel⟩, List.mem_of_getElem? (i := 685) (by decide +kernel), List.mem_of_getElem? (i := 870) (by decide +kernel), List.mem_of_getElem? (i := 871) (by decide +kernel)⟩
theorem lw_p39 : lw_okq (⟨"UnmarkedPagesModel", "packs", "()V"⟩, 32) := ⟨⟨by decide +kernel, by decide +kernel⟩, List.mem_of_getElem? (i := 685) (by decide +kernel), List.mem_of_getElem? (i := 874) (by decide +kernel), List.mem_of_getElem? (i := 875) (by decide +kernel)⟩
theorem lw_p40 : lw_okq (⟨"UnmarkedPagesModel", "codes", "(II)V"⟩, 32) := ⟨⟨by decide +kernel, by decide +kernel⟩, List.mem_of_getElem? (i := 685) (by decide +kernel), List.mem_of_getElem? (i := 878) (by decide +kernel), List.mem_of_getElem? (i := 879) (by decide +kernel)⟩
theorem lw_p41 : lw_okq (⟨"UnmarkedPagesModel", "codesName", "(I)V"⟩, 32) := ⟨⟨by decide +kernel, by decide +kernel⟩, List.mem_of_getElem? (i := 685) (by decide +kernel), List.mem_of_getElem? (i := 882) (by decide +kernel), List.mem_of_getElem? (i := 883) (by decide +kernel)⟩
theorem lw_p42 : lw_okq (⟨"UnmarkedPagesModel", "codesNotes", "(I)V"⟩, 32) := ⟨⟨by decide +kernel, by decide +kernel⟩, List.mem_of_getElem? (i := 685) (by decide +kernel), List.mem_of_getElem? (i := 886) (by decide +kernel), List.mem_of_getElem? (i := 887) (by decide +kernel)⟩
theorem lw_p43 : lw_okq (⟨"UnmarkedPagesModel", "codesWord", "(II)V"⟩, 32) := ⟨⟨by decide +kernel, by decide +kernel⟩, List.mem_of_getElem? (i := 685) (by decide +kernel), List.mem_of_getElem? (i := 890) (by decide +kernel), List.mem_of_getElem? (i := 891) (by decide +kernel)⟩
theorem lw_p44 : lw_okq (⟨"UnmarkedPagesModel", "isWord", "(III)Z"⟩, 32) := ⟨⟨by decide +kernel, by decide +kernel⟩, List.mem_of_getElem? (i := 685) (by decide +kernel), List.mem_of_getElem? (i := 894) (by decide +kernel), List.mem_of_getElem? (i := 895) (by decide +kernel)⟩
theorem lw_p45 : lw_okq (⟨"UnmarkedPagesModel", "pageBits", "()I"⟩, 32) := ⟨⟨by decide +kernel, by decide +kernel⟩, List.mem_of_getElem? (i := 685) (by decide +kernel), List.mem_of_getElem? (i := 898) (by decide +kernel), List.mem_of_getElem? (i := 899) (by decide +kernel)⟩
theorem lw_p46 : lw_okq (⟨"UnmarkedPagesModel", "rowBits", "(I)I"⟩, 32) := ⟨⟨by decide +kernel, by decide +kernel⟩, List.mem_of_getElem? (i := 685) (by decide +kernel), List.mem_of_getElem? (i := 902) (by decide +kernel), List.mem_of_getElem? (i := 903) (by decide +kernel)⟩
theorem lw_p47 : lw_okq (⟨"UnmarkedPagesModel", "no", "(I)Z"⟩, 32) := ⟨⟨by decide +kernel, by decide +kernel⟩, List.mem_of_getElem? (i := 685) (by decide +kernel), List.mem_of_getElem? (i := 917) (by decide +kernel), List.mem_of_getElem? (i := 918) (by decide +kernel)⟩
def lw_privs_3 : List (MethodName × Nat) := [(⟨"UnmarkedPagesModel", "closes", "(I)I"⟩, 32), (⟨"UnmarkedPagesModel", "implies", "(IZ)V"⟩, 32), (⟨"UnmarkedPagesModel", "opens", "(I)I"⟩, 32), (⟨"UnmarkedPagesModel", "readNotes", "(II)I"⟩, 32), (⟨"UnmarkedPagesModel", "packsUpTo", "(I)V"⟩, 32), (⟨"UnmarkedPagesModel", "forgets", "()V"⟩, 32), (⟨"UnmarkedPagesModel", "takesPage", "(I)V"⟩, 32), (⟨"UnmarkedPagesModel", "packs", "()V"⟩, 32), (⟨"UnmarkedPagesModel", "codes", "(II)V"⟩, 32), (⟨"UnmarkedPagesModel", "codesName", "(I)V"⟩, 32), (⟨"UnmarkedPagesModel", "codesNotes", "(I)V"⟩, 32), (⟨"UnmarkedPagesModel", "codesWord", "(II)V"⟩, 32), (⟨"UnmarkedPagesModel", "isWord", "(III)Z"⟩, 32), (⟨"UnmarkedPagesModel", "pageBits", "()I"⟩, 32), (⟨"UnmarkedPagesModel", "rowBits", "(I)I"⟩, 32), (⟨"UnmarkedPagesModel", "no", "(I)Z"⟩, 32)]
theorem lw_r3 : ∀ q ∈ lw_privs_3, lw_okq q := List.forall_mem_cons.mpr ⟨lw_p32, List.forall_mem_cons.mpr ⟨lw_p33, List.forall_mem_cons.mpr ⟨lw_p34, List.forall_mem_cons.mpr ⟨lw_p35, List.forall_mem_cons.mpr ⟨lw_p36, List.forall_mem_cons.mpr ⟨lw_p37, List.forall_mem_cons.mpr ⟨lw_p38, List.forall_mem_cons.mpr ⟨lw_p39, List.forall_mem_cons.mpr ⟨lw_p40, List.forall_mem_cons.mpr ⟨lw_p41, List.forall_mem_cons.mpr ⟨lw_p42, List.forall_mem_cons.mpr ⟨lw_p43, List.forall_mem_cons.mpr ⟨lw_p44, List.forall_mem_cons.mpr ⟨lw_p45, List.forall_mem_cons.mpr ⟨lw_p46, List.forall_mem_cons.mpr ⟨lw_p47, fun _ h => absurd h List.not_mem_nil⟩⟩⟩⟩⟩⟩⟩⟩⟩⟩⟩⟩⟩⟩⟩⟩
theorem lw_p48 : lw_okq (⟨"UnmarkedPagesModel", "allBits", "()I"⟩, 32) := ⟨⟨by decide +kernel, by decide +kernel⟩, List.mem_of_getElem? (i := 685) (by decide +kernel), List.mem_of_getElem? (i := 921) (by decide +kernel), List.mem_of_getElem? (i := 922) (by decide +kernel)⟩
theorem lw_p49 : lw_okq (⟨"UnmarkedPagesModel", "partsOfText", "()I"⟩, 32) := ⟨⟨by decide +kernel, by decide +kernel⟩, List.mem_of_getElem? (i := 685) (by decide +kernel), List.mem_of_getElem? (i := 969) (by decide +kernel), List.mem_of_getElem? (i := 970) (by decide +kernel)⟩
theorem lw_p50 : lw_okq (⟨"UnmarkedPagesModel", "inner", "(III)I"⟩, 32) := ⟨⟨by decide +kernel, by decide +kernel⟩, List.mem_of_getElem? (i := 685) (by decide +kernel), List.mem_of_getElem? (i := 973) (by decide +kernel), List.mem_of_getElem? (i := 974) (by decide +kernel)⟩
theorem lw_p51 : lw_okq (⟨"UnmarkedPagesModel", "overPages", "(I)I"⟩, 32) := ⟨⟨by decide +kernel, by decide +kernel⟩, List.mem_of_getElem? (i := 685) (by decide +kernel), List.mem_of_getElem? (i := 989) (by decide +kernel), List.mem_of_getElem? (i := 990) (by decide +kernel)⟩
def lw_privs_4 : List (MethodName × Nat) := [(⟨"UnmarkedPagesModel", "allBits", "()I"⟩, 32), (⟨"UnmarkedPagesModel", "partsOfText", "()I"⟩, 32), (⟨"UnmarkedPagesModel", "inner", "(III)I"⟩, 32), (⟨"UnmarkedPagesModel", "overPages", "(I)I"⟩, 32)]
theorem lw_r4 : ∀ q ∈ lw_privs_4, lw_okq q := List.forall_mem_cons.mpr ⟨lw_p48, List.forall_mem_cons.mpr ⟨lw_p49, List.forall_mem_cons.mpr ⟨lw_p50, List.forall_mem_cons.mpr ⟨lw_p51, fun _ h => absurd h List.not_mem_nil⟩⟩⟩⟩
def lw_privs : List (MethodName × Nat) := lw_privs_1 ++ (lw_privs_2 ++ (lw_privs_3 ++ (lw_privs_4)))
def lw_tbl : List Cond := k2_sels lw_privs ++ tables_1
theorem lw_privs_ok : ∀ q ∈ lw_privs, lw_okq q := by
  show ∀ q ∈ lw_privs_1 ++ (lw_privs_2 ++ (lw_privs_3 ++ (lw_privs_4))), lw_okq q
  exact List.forall_mem_append.mpr ⟨lw_r1, List.forall_mem_append.mpr ⟨lw_r2, List.forall_mem_append.mpr ⟨lw_r3, lw_r4⟩⟩⟩
end
section
/-! class tables: the fields of each class in their order, and the words that speak of them -/
abbrev uf_L : Type := List (String × String × String × Bool)
abbrev uf_T (l : uf_L) : u_T := fun k => l.getD k ("", "", "", false)
def uf_ty (l : uf_L) (k : Nat) : FieldType := (parseFieldDescriptor (uf_T l k).2.2.1).getD .int
def uf_0 : uf_L := [("UnmarkedPages$Codes", "steps", "LUnmarkedPages$Row;", true), ("UnmarkedPages$Codes", "names", "LUnmarkedPages$Row;", true), ("UnmarkedPages$Codes", "notes", "LUnmarkedPages$Row;", true), ("UnmarkedPages$Codes", "words", "LUnmarkedPages$Row;", true)]
def uf_1 : uf_L := [("UnmarkedPages$FrontList", "items", "[J", true), ("UnmarkedPages$FrontList", "size", "I", false)]
def uf_2 : uf_L := [("UnmarkedPages$Known", "names", "[LUnmarkedPages$FrontList;", true), ("UnmarkedPages$Known", "words", "LUnmarkedPages$FrontList;", true), ("UnmarkedPages$Known", "sets", "LUnmarkedPages$Row;", true), ("UnmarkedPages$Known", "values", "LUnmarkedPages$Row;", true)]
def uf_3 : uf_L := [("UnmarkedPages$Page", "letters", "LUnmarkedPages$Row;", true), ("UnmarkedPages$Page", "steps", "LUnmarkedPages$Row;", true), ("UnmarkedPages$Page", "boxPlaces", "LUnmarkedPages$Row;", true), ("UnmarkedPages$Page", "boxNames", "LUnmarkedPages$Row;", true), ("UnmarkedPages$Page", "boxesAround", "LUnmarkedPages$Row;", true), ("UnmarkedPages$Page", "wordsAround", "LUnmarkedPages$Row;", true), ("UnmarkedPages$Page", "wordPlaces", "LUnmarkedPages$Row;", true), ("UnmarkedPages$Page", "wordLengths", "LUnmarkedPages$Row;", true)]
def uf_4 : uf_L := [("UnmarkedPages$PathReader", "names", "LUnmarkedPages$Row;", true), ("UnmarkedPages$PathReader", "numbers", "LUnmarkedPages$Row;", true), ("UnmarkedPages$PathReader", "mode", "I", false)]
def uf_5 : uf_L := [("UnmarkedPages$Reader", "page", "LUnmarkedPages$Page;", true), ("UnmarkedPages$Reader", "faultPlace", "I", false), ("UnmarkedPages$Reader", "faultKind", "I", false), ("UnmarkedPages$Reader", "faultCause", "I", false), ("UnmarkedPages$Reader", "mode", "I", false), ("UnmarkedPages$Reader", "open", "LUnmarkedPages$Row;", true), ("UnmarkedPages$Reader", "keyPlaces", "LUnmarkedPages$Row;", true)]
def uf_6 : uf_L := [("UnmarkedPages$Row", "items", "[I", true), ("UnmarkedPages$Row", "size", "I", false)]
def uf_7 : uf_L := [("UnmarkedPages$State", "rules", "LUnmarkedPages$Row;", true), ("UnmarkedPages$State", "pages", "[LUnmarkedPages$Page;", true), ("UnmarkedPages$State", "pageCount", "I", false)]
def uf_8 : uf_L := [("UnmarkedPages", "text", "LUnmarkedPages$Row;", true), ("UnmarkedPages", "reader", "LUnmarkedPages$Reader;", true), ("UnmarkedPages", "pathReader", "LUnmarkedPages$PathReader;", true), ("UnmarkedPages", "now", "LUnmarkedPages$State;", true), ("UnmarkedPages", "history", "[LUnmarkedPages$State;", true), ("UnmarkedPages", "historySize", "I", false), ("UnmarkedPages", "snapshot", "LUnmarkedPages$State;", true), ("UnmarkedPages", "hasSnapshot", "Z", false), ("UnmarkedPages", "knowledge", "LUnmarkedPages$Known;", true), ("UnmarkedPages", "packed", "[LUnmarkedPages$Codes;", true), ("UnmarkedPages", "trialKnowledge", "LUnmarkedPages$Known;", true), ("UnmarkedPages", "trialCodes", "LUnmarkedPages$Codes;", true)]
def uf_9 : uf_L := [("UnmarkedPagesModel", "now", "[I", true), ("UnmarkedPagesModel", "history", "[I", true), ("UnmarkedPagesModel", "kept", "I", false), ("UnmarkedPagesModel", "slot", "[I", true), ("UnmarkedPagesModel", "isFilled", "Z", false), ("UnmarkedPagesModel", "letters", "[I", true), ("UnmarkedPagesModel", "length", "I", false), ("UnmarkedPagesModel", "ends", "[I", true), ("UnmarkedPagesModel", "open", "[I", true), ("UnmarkedPagesModel", "depth", "I", false), ("UnmarkedPagesModel", "keyPlaces", "[I", true), ("UnmarkedPagesModel", "boxes", "[I", true), ("UnmarkedPagesModel", "many", "I", false), ("UnmarkedPagesModel", "steps", "[I", true), ("UnmarkedPagesModel", "about", "[I", true), ("UnmarkedPagesModel", "stepped", "I", false), ("UnmarkedPagesModel", "implied", "I", false), ("UnmarkedPagesModel", "faultPlace", "I", false), ("UnmarkedPagesModel", "faultKind", "I", false), ("UnmarkedPagesModel", "faultCause", "I", false), ("UnmarkedPagesModel", "lists", "[I", true), ("UnmarkedPagesModel", "listed", "[I", true), ("UnmarkedPagesModel", "latestSet", "[I", true), ("UnmarkedPagesModel", "latestValue", "[I", true), ("UnmarkedPagesModel", "words", "[I", true), ("UnmarkedPagesModel", "wordsKnown", "I", false), ("UnmarkedPagesModel", "codes", "[I", true), ("UnmarkedPagesModel", "coded", "[I", true), ("UnmarkedPagesModel", "typed", "I", false), ("UnmarkedPagesModel", "text", "[C", true), ("UnmarkedPagesModel", "partNames", "[I", true), ("UnmarkedPagesModel", "partNumbers", "[I", true)]
def u_fl (ci : Nat) : uf_L := match ci with
  | 0 => uf_0
  | 1 => uf_1
  | 2 => uf_2
  | 3 => uf_3
  | 4 => uf_4
  | 5 => uf_5
  | 6 => uf_6
  | 7 => uf_7
  | 8 => uf_8
  | 9 => uf_9
  | _ => []
abbrev u_cls : List vw_C := [("UnmarkedPages$Codes", uf_T uf_0, 4), ("UnmarkedPages$FrontList", uf_T uf_1, 2), ("UnmarkedPages$Known", uf_T uf_2, 4), ("UnmarkedPages$Page", uf_T uf_3, 8), ("UnmarkedPages$PathReader", uf_T uf_4, 3), ("UnmarkedPages$Reader", uf_T uf_5, 7), ("UnmarkedPages$Row", uf_T uf_6, 2), ("UnmarkedPages$State", uf_T uf_7, 3), ("UnmarkedPages", uf_T uf_8, 12), ("UnmarkedPagesModel", uf_T uf_9, 32)]
def uw_W : List Cond := lw_tbl.filter goodWord
theorem uw_mem (i : Nat) {w : Cond} (h : lw_tbl[i]? = some w) (g : goodWord w = true) : w ∈ uw_W := List.mem_filter.mpr ⟨List.mem_of_getElem? h, g⟩
theorem uw_sub : ∀ w ∈ uw_W, w ∈ lw_tbl := fun w h => (List.mem_filter.mp h).1
theorem uw_good : ∀ w ∈ uw_W, goodWord w = true := fun w h => (List.mem_filter.mp h).2
def uc_P (C : String) (l : uf_L) (N : Nat) : Prop := (∀ k, k < N → u_lay C (uf_T l) k ∈ uw_W) ∧ (∀ a, a < N → ∀ b, b < N → a ≠ b → (uf_T l a).2.1 ≠ (uf_T l b).2.1) ∧ (∀ k, k < N → parseFieldDescriptor (uf_T l k).2.2.1 = some (uf_ty l k)) ∧ Cond.instantiable C N ∈ uw_W ∧ Cond.initialized C ∈ uw_W
set_option maxRecDepth 20000 in
theorem uc_0 : uc_P "UnmarkedPages$Codes" uf_0 4 := ⟨lt_s (lt_s (lt_s (lt_s (lt_0) (uw_mem 277 rfl rfl)) (uw_mem 279 rfl rfl)) (uw_mem 281 rfl rfl)) (uw_mem 283 rfl rfl), by decide +kernel, by decide +kernel, uw_mem 262 rfl rfl, uw_mem 62 rfl rfl⟩
set_option maxRecDepth 20000 in
theorem uc_1 : uc_P "UnmarkedPages$FrontList" uf_1 2 := ⟨lt_s (lt_s (lt_0) (uw_mem 237 rfl rfl)) (uw_mem 239 rfl rfl), by decide +kernel, by decide +kernel, uw_mem 229 rfl rfl, uw_mem 61 rfl rfl⟩
set_option maxRecDepth 20000 in
theorem uc_2 : uc_P "UnmarkedPages$Known" uf_2 4 := ⟨lt_s (lt_s (lt_s (lt_s (lt_0) (uw_mem 251 rfl rfl)) (uw_mem 253 rfl rfl)) (uw_mem 255 rfl rfl)) (uw_mem 257 rfl rfl), by decide +kernel, by decide +kernel, uw_mem 222 rfl rfl, uw_mem 60 rfl rfl⟩
set_option maxRecDepth 20000 in
theorem uc_3 : uc_P "UnmarkedPages$Page" uf_3 8 := ⟨lt_s (lt_s (lt_s (lt_s (lt_s (lt_s (lt_s (lt_s (lt_0) (uw_mem 131 rfl rfl)) (uw_mem 133 rfl rfl)) (uw_mem 135 rfl rfl)) (uw_mem 137 rfl rfl)) (uw_mem 139 rfl rfl)) (uw_mem 141 rfl rfl)) (uw_mem 143 rfl rfl)) (uw_mem 145 rfl rfl), by decide +kernel, by decide +kernel, uw_mem 97 rfl rfl, uw_mem 57 rfl rfl⟩
set_option maxRecDepth 20000 in
theorem uc_4 : uc_P "UnmarkedPages$PathReader" uf_4 3 := ⟨lt_s (lt_s (lt_s (lt_0) (uw_mem 187 rfl rfl)) (uw_mem 189 rfl rfl)) (uw_mem 191 rfl rfl), by decide +kernel, by decide +kernel, uw_mem 177 rfl rfl, uw_mem 58 rfl rfl⟩
set_option maxRecDepth 20000 in
theorem uc_5 : uc_P "UnmarkedPages$Reader" uf_5 7 := ⟨lt_s (lt_s (lt_s (lt_s (lt_s (lt_s (lt_s (lt_0) (uw_mem 161 rfl rfl)) (uw_mem 163 rfl rfl)) (uw_mem 165 rfl rfl)) (uw_mem 167 rfl rfl)) (uw_mem 169 rfl rfl)) (uw_mem 171 rfl rfl)) (uw_mem 173 rfl rfl), by decide +kernel, by decide +kernel, uw_mem 91 rfl rfl, uw_mem 56 rfl rfl⟩
set_option maxRecDepth 20000 in
theorem uc_6 : uc_P "UnmarkedPages$Row" uf_6 2 := ⟨lt_s (lt_s (lt_0) (uw_mem 84 rfl rfl)) (uw_mem 86 rfl rfl), by decide +kernel, by decide +kernel, uw_mem 74 rfl rfl, uw_mem 54 rfl rfl⟩
set_option maxRecDepth 20000 in
theorem uc_7 : uc_P "UnmarkedPages$State" uf_7 3 := ⟨lt_s (lt_s (lt_s (lt_0) (uw_mem 213 rfl rfl)) (uw_mem 215 rfl rfl)) (uw_mem 217 rfl rfl), by decide +kernel, by decide +kernel, uw_mem 195 rfl rfl, uw_mem 59 rfl rfl⟩
set_option maxRecDepth 20000 in
theorem uc_8 : uc_P "UnmarkedPages" uf_8 12 := ⟨lt_s (lt_s (lt_s (lt_s (lt_s (lt_s (lt_s (lt_s (lt_s (lt_s (lt_s (lt_s (lt_0) (uw_mem 298 rfl rfl)) (uw_mem 300 rfl rfl)) (uw_mem 302 rfl rfl)) (uw_mem 304 rfl rfl)) (uw_mem 306 rfl rfl)) (uw_mem 308 rfl rfl)) (uw_mem 310 rfl rfl)) (uw_mem 312 rfl rfl)) (uw_mem 314 rfl rfl)) (uw_mem 316 rfl rfl)) (uw_mem 318 rfl rfl)) (uw_mem 320 rfl rfl), by decide +kernel, by decide +kernel, uw_mem 66 rfl rfl, uw_mem 53 rfl rfl⟩
set_option maxRecDepth 20000 in
theorem uc_9 : uc_P "UnmarkedPagesModel" uf_9 32 := ⟨lt_s (lt_s (lt_s (lt_s (lt_s (lt_s (lt_s (lt_s (lt_s (lt_s (lt_s (lt_s (lt_s (lt_s (lt_s (lt_s (lt_s (lt_s (lt_s (lt_s (lt_s (lt_s (lt_s (lt_s (lt_s (lt_s (lt_s (lt_s (lt_s (lt_s (lt_s (lt_s (lt_0) (uw_mem 774 rfl rfl)) (uw_mem 776 rfl rfl)) (uw_mem 778 rfl rfl)) (uw_mem 780 rfl rfl)) (uw_mem 782 rfl rfl)) (uw_mem 784 rfl rfl)) (uw_mem 786 rfl rfl)) (uw_mem 788 rfl rfl)) (uw_mem 790 rfl rfl)) (uw_mem 792 rfl rfl)) (uw_mem 794 rfl rfl)) (uw_mem 796 rfl rfl)) (uw_mem 798 rfl rfl)) (uw_mem 800 rfl rfl)) (uw_mem 802 rfl rfl)) (uw_mem 804 rfl rfl)) (uw_mem 806 rfl rfl)) (uw_mem 808 rfl rfl)) (uw_mem 810 rfl rfl)) (uw_mem 812 rfl rfl)) (uw_mem 814 rfl rfl)) (uw_mem 816 rfl rfl)) (uw_mem 818 rfl rfl)) (uw_mem 820 rfl rfl)) (uw_mem 822 rfl rfl)) (uw_mem 824 rfl rfl)) (uw_mem 826 rfl rfl)) (uw_mem 828 rfl rfl)) (uw_mem 830 rfl rfl)) (uw_mem 832 rfl rfl)) (uw_mem 834 rfl rfl)) (uw_mem 836 rfl rfl), by decide +kernel, by decide +kernel, uw_mem 737 rfl rfl, uw_mem 63 rfl rfl⟩
theorem uc_at {ci : Nat} {r : vw_C} (h : u_cls[ci]? = some r) : uc_P r.1 (u_fl ci) r.2.2 ∧ r.2.1 = uf_T (u_fl ci) ∧ ci < 10 := by
  match ci, h with
  | 0, h => cases h; exact ⟨uc_0, rfl, by decide⟩
  | 1, h => cases h; exact ⟨uc_1, rfl, by decide⟩
  | 2, h => cases h; exact ⟨uc_2, rfl, by decide⟩
  | 3, h => cases h; exact ⟨uc_3, rfl, by decide⟩
  | 4, h => cases h; exact ⟨uc_4, rfl, by decide⟩
  | 5, h => cases h; exact ⟨uc_5, rfl, by decide⟩
  | 6, h => cases h; exact ⟨uc_6, rfl, by decide⟩
  | 7, h => cases h; exact ⟨uc_7, rfl, by decide⟩
  | 8, h => cases h; exact ⟨uc_8, rfl, by decide⟩
  | 9, h => cases h; exact ⟨uc_9, rfl, by decide⟩
  | ci + 10, h => simp [u_cls] at h
end
section
/-! THE ABSTRACT MACHINE: an abstract heap (next address, cells by address), what a method may assume, and the judgement uW: from here, with these locals, this stack and this abstract heap, the method comes to its end with Q. Each uW is a statement of the machine itself (W). -/
abbrev ui (z : Int) : Value := .int (Int32.ofInt z)
abbrev uj (z : Int) : Value := .long (Int64.ofInt z)
abbrev uCel : Type := (Nat × List Value) ⊕ (Nat × Nat × (Nat → Value))
abbrev uHp : Type := Nat × (Nat → Option uCel)
abbrev uPs : Type := Option Value → uHp → Prop
/-- a method: name, bytes, locals, what it returns; its rank, what it makes (cells, slots); the script that it reads (the law alone) -/
abbrev uM : Type := MethodName × ByteArray × Nat × Option FieldType × (Nat × Nat × Nat) × Option (Nat × Nat × (Nat → Int32))
abbrev uM.y (M : uM) : MethodName := M.1
abbrev uM.cc (M : uM) : ByteArray := M.2.1
abbrev uM.nL (M : uM) : Nat := M.2.2.1
abbrev uM.ret (M : uM) : Option FieldType := M.2.2.2.1
abbrev uM.d (M : uM) : Nat := M.2.2.2.2.1.1
abbrev uM.mc (M : uM) : Nat := M.2.2.2.2.1.2.1
abbrev uM.ms (M : uM) : Nat := M.2.2.2.2.1.2.2
abbrev uM.ex (M : uM) : Option (Nat × Nat × (Nat → Int32)) := M.2.2.2.2.2
abbrev uG : Type := (Nat → ClassId) × (Nat → Nat → Nat) × (Nat → ClassId)
def u_kt (k : Nat) : FieldType := match k with
  | 0 => .int
  | 1 => .long
  | 2 => .char
  | 3 => .object "UnmarkedPages$FrontList"
  | 4 => .object "UnmarkedPages$Page"
  | 5 => .object "UnmarkedPages$State"
  | _ => .object "UnmarkedPages$Codes"
def u_at (G : uG) (a : Nat) (c : uCel) (H : Heap) : Prop := match c with
  | .inl o => ∃ r : vw_C, u_cls[o.1]? = some r ∧ o.2.length = r.2.2 ∧ t_OB a (G.1 o.1) r.2.2 (G.2.1 o.1) H (vp_V o.2)
  | .inr x => x.1 < 7 ∧ H[a]? = some (arrV (G.2.2 x.1) x.2.1 x.2.2)
def u_Rel (G : uG) (B : Nat) (h : uHp) (H : Heap) : Prop := h.1 = H.size ∧ ∀ a c, h.2 a = some c → B ≤ a ∧ u_at G a c H
def u_LR (n : Nat) (l : List Value) (ls : Array Slot) : Prop := ls.size = n ∧ lv_wf ls ∧ l.length = n ∧ ∀ (i : Nat) (v : Value), l[i]? = some v → v ≠ .null → ls[i]? = some (.val v)
/-- links to private members of a nest mate -/
def u_nestF : List (String × Nat × String × String × String × String) := [("UnmarkedPages$Known", 47, "UnmarkedPages$Codes", "steps", "LUnmarkedPages$Row;", "UnmarkedPages"), ("UnmarkedPages$Known", 64, "UnmarkedPages$Codes", "names", "LUnmarkedPages$Row;", "UnmarkedPages"), ("UnmarkedPages$Known", 70, "UnmarkedPages$Codes", "notes", "LUnmarkedPages$Row;", "UnmarkedPages"), ("UnmarkedPages$Known", 79, "UnmarkedPages$Codes", "words", "LUnmarkedPages$Row;", "UnmarkedPages")]
def u_nestM : List (String × Nat × MethodName × String) := [("UnmarkedPages", 20, ⟨"UnmarkedPages$Reader", "<init>", "()V"⟩, "UnmarkedPages"), ("UnmarkedPages$Reader", 11, ⟨"UnmarkedPages$Page", "<init>", "()V"⟩, "UnmarkedPages"), ("UnmarkedPages", 27, ⟨"UnmarkedPages$PathReader", "<init>", "()V"⟩, "UnmarkedPages"), ("UnmarkedPages$State", 29, ⟨"UnmarkedPages$Page", "<init>", "()V"⟩, "UnmarkedPages"), ("UnmarkedPages", 62, ⟨"UnmarkedPages$Codes", "<init>", "()V"⟩, "UnmarkedPages"), ("UnmarkedPages$Reader", 83, ⟨"UnmarkedPages", "isNameLetter", "(I)Z"⟩, "UnmarkedPages"), ("UnmarkedPages$PathReader", 51, ⟨"UnmarkedPages", "isNameLetter", "(I)Z"⟩, "UnmarkedPages")]
def u_over : List String := ["UnmarkedPages$FrontList", "UnmarkedPages$Page", "UnmarkedPages$State", "UnmarkedPages$Codes"]
def u_KK (G : uG) (U : State) : Prop :=
  (∀ (c : Nat) (q : vw_C), u_cls[c]? = some q → u_Kn U q.1 q.2.1 q.2.2 (G.1 c) (G.2.1 c)) ∧ (∀ k : Nat, k < 7 → ArrOfT U (G.2.2 k) (u_kt k) ∧ va_RA U (G.2.2 k) (u_kt k)) ∧
  (∀ q ∈ u_nestF, va_Nw (.fieldLinkNest q.1 q.2.1 q.2.2.1 q.2.2.2.1 q.2.2.2.2.1 q.2.2.2.2.2) U) ∧ (∀ q ∈ u_nestM, va_Nw (.methodLinkNest q.1 q.2.1 q.2.2.1 q.2.2.2) U) ∧ ∀ C ∈ u_over, va_AO C U
theorem u_KK.same {G : uG} {u U : State} (h : u.vm = U.vm) (hK : u_KK G u) : u_KK G U := by
  have hA : u.vm.Alike U.vm := by rw [h]; exact Vm.Alike.refl _
  obtain ⟨h1, h2, h3, h4, h5⟩ := hK
  exact ⟨fun c q hq => u_Kn_moved hA (h1 c q hq), fun k hk => ⟨arrOfT_moved hA (h2 k hk).1, (h2 k hk).2.moved hA⟩, fun q hq => (h3 q hq).same rfl h, fun q hq => (h4 q hq).same rfl h, fun C hC => (h5 C hC).moved hA⟩
theorem u_KK.warm {G : uG} {s U : State} (hW : s.WarmedH U.vm) (hK : u_KK G s) : u_KK G U := by
  have hA : s.vm.Alike U.vm := hW.alike
  obtain ⟨h1, h2, h3, h4, h5⟩ := hK
  exact ⟨fun c q hq => u_Kn_moved hA (h1 c q hq), fun k hk => ⟨arrOfT_moved hA (h2 k hk).1, (h2 k hk).2.moved hA⟩, fun q hq => (h3 q hq).warmF hW, fun q hq => (h4 q hq).warmM hW, fun C hC => (h5 C hC).moved hA⟩
def u_loc (d : Nat) : Nat := if d < 9 then 40 * d else 372
def u_rm (M : uM) : Room := { frames := if M.d < 9 then M.d else 10, cells := M.mc, slots := M.ms, locals := u_loc M.d }
def u_Ctx (G : uG) (B : Nat) (M : uM) (p : Program) (l : Launch) (e : Env) (R : Room) (s : State) (m : MethodId) (args : Array Value) (below : List Frame) (meth : Method) (c : Code) : Prop :=
  p.tables.exec = Jvm.exec ∧ c.code = M.cc ∧ meth.sig.returnType = M.ret ∧ meth.locks = false ∧ c.maxLocals = M.nL ∧ s.vm.findClass M.y.cls = some m.cls ∧ meth.name = M.y.name ∧ (∀ w ∈ uw_W, w.before args s = true) ∧ u_KK G s ∧ R = u_rm M ∧ B ≤ s.heap.size ∧
  ∀ q, M.ex = some q → va_X q.1 q.2.1 q.2.2 s s.heap ∧ q.1 < s.heap.size ∧ q.1 < B
/-- the return instruction at pc, with this value -/
def u_ret (M : uM) (pc : Nat) (v : Option Value) : Prop := match v with
  | none => decode M.cc pc = .ok (.return_, 1) ∧ M.ret = none
  | some (.int x) => decode M.cc pc = .ok (.ireturn, 1) ∧ ∃ ty, M.ret = some ty ∧ narrow ty (.int x) = .int x
  | some (.long _) => decode M.cc pc = .ok (.lreturn, 1) ∧ M.ret = some .long
  | some (.ref _) => decode M.cc pc = .ok (.areturn, 1) ∧ ∃ C, M.ret = some (.object C)
  | _ => False
def u_Fin (G : uG) (B : Nat) (M : uM) (p : Program) (l : Launch) (e : Env) (R : Room) (s : State) (m : MethodId) (args : Array Value) (below : List Frame) (meth : Method) (c : Code) (Q : uPs) (Qf : State → Prop) : Prop :=
  ∀ (H : Heap) (locs : List Loc) (ls : Array Slot) (h : uHp) (pc k n : Nat) (v : Option Value), u_Rel G B h H → va_S (fun q => B ≤ q) s.heap H locs → k ≤ M.mc → n ≤ M.ms → Q v h → u_ret M pc v → W p l e R s m args below meth c H locs k n Qf (F0 m pc ls v.toList)
def uW (M : uM) (pc : Nat) (l st : List Value) (h : uHp) (k n : Nat) (Q : uPs) : Prop :=
  ∀ (G : uG) (B : Nat) (p : Program) (la : Launch) (e : Env) (R : Room) (s : State) (m : MethodId) (args : Array Value) (below : List Frame) (meth : Method) (c : Code) (Qf : State → Prop), u_Ctx G B M p la e R s m args below meth c → u_Fin G B M p la e R s m args below meth c Q Qf →
  ∀ (H : Heap) (locs : List Loc) (ls : Array Slot), u_Rel G B h H → va_S (fun q => B ≤ q) s.heap H locs → u_LR M.nL l ls → W p la e R s m args below meth c H locs k n Qf (F0 m pc ls st)
/-! locals -/
def u_prs (l : List Value) : List (Nat × Value) := (l.zipIdx.filter (fun q => decide (q.1 ≠ Value.null))).map (fun q => (q.2, q.1))
theorem u_prs_mem {l : List Value} {i : Nat} {v : Value} : (i, v) ∈ u_prs l ↔ l[i]? = some v ∧ v ≠ .null := by
  unfold u_prs
  simp only [List.mem_map, List.mem_filter, decide_eq_true_eq, Prod.mk.injEq]
  constructor
  · rintro ⟨⟨a, b⟩, ⟨h1, h2⟩, rfl, rfl⟩
    exact ⟨List.mem_zipIdx_iff_getElem?.mp h1, h2⟩
  · rintro ⟨h1, h2⟩
    exact ⟨(v, i), ⟨List.mem_zipIdx_iff_getElem?.mpr h1, h2⟩, rfl, rfl⟩
theorem u_LR.has {n : Nat} {l : List Value} {ls : Array Slot} (h : u_LR n l ls) : lv_has ls n (u_prs l) := by
  obtain ⟨h1, h2, -, h4⟩ := h
  refine ⟨h1, h2, fun q hq => ?_⟩
  obtain ⟨i, v⟩ := q
  obtain ⟨a, b⟩ := u_prs_mem.mp hq
  exact h4 i v a b
/-- a store of one slot: nothing of two slots stands right below -/
def u_st1 (l : List Value) (i : Nat) : Bool := match i with
  | 0 => true
  | i + 1 => (l.getD i .null).category != 2
theorem u_LR.store {n : Nat} {l : List Value} {ls ls' : Array Slot} {i : Nat} {v : Value} (h : u_LR n l ls) (hs : u_st1 l i = true) (h' : lv_has ls' n ((i, v) :: (u_prs l).filter (fun q => !(q.1 == i) && !(q.1 + 1 == i && q.2.category == 2)))) : u_LR n (l.set i v) ls' := by
  obtain ⟨h1, h2, h3⟩ := h'
  refine ⟨h1, h2, by rw [List.length_set]; exact h.2.2.1, fun j w hj hw => ?_⟩
  by_cases hij : i = j
  · subst hij
    by_cases hl : i < l.length
    · rw [List.getElem?_set_self hl] at hj
      cases hj
      exact h3 _ List.mem_cons_self
    · rw [List.getElem?_eq_none (by rw [List.length_set]; omega)] at hj
      cases hj
  · rw [List.getElem?_set_ne hij] at hj
    refine h3 (j, w) (List.mem_cons_of_mem _ (List.mem_filter.mpr ⟨u_prs_mem.mpr ⟨hj, hw⟩, ?_⟩))
    have e1 : (j == i) = false := by simp; omega
    simp only [e1, Bool.not_false, Bool.true_and]
    cases i with
    | zero => simp
    | succ i =>
      by_cases hji : j = i
      · subst hji
        simp only [u_st1, bne_iff_ne, ne_eq] at hs
        rw [List.getD_eq_getElem?_getD, hj] at hs
        simpa using hs
      · simp; omega
theorem u_LR.store2 {n : Nat} {l : List Value} {ls ls' : Array Slot} {i : Nat} {v : Value} (h : u_LR n l ls) (hs : u_st1 l i = true) (h' : lv_has ls' n ((i, v) :: (u_prs l).filter (fun q => !(q.1 == i) && (!(q.1 == i + 1) && !(q.1 + 1 == i && q.2.category == 2))))) : u_LR n ((l.set i v).set (i + 1) .null) ls' := by
  obtain ⟨h1, h2, h3⟩ := h'
  refine ⟨h1, h2, by rw [List.length_set, List.length_set]; exact h.2.2.1, fun j w hj hw => ?_⟩
  by_cases hij1 : i + 1 = j
  · subst hij1
    by_cases hl : i + 1 < (l.set i v).length
    · rw [List.getElem?_set_self hl] at hj
      cases hj
      exact absurd rfl hw
    · rw [List.getElem?_eq_none (by rw [List.length_set]; omega)] at hj
      cases hj
  · rw [List.getElem?_set_ne hij1] at hj
    by_cases hij : i = j
    · subst hij
      by_cases hl : i < l.length
      · rw [List.getElem?_set_self hl] at hj
        cases hj
        exact h3 _ List.mem_cons_self
      · rw [List.getElem?_eq_none (by rw [List.length_set]; omega)] at hj
        cases hj
    · rw [List.getElem?_set_ne hij] at hj
      refine h3 (j, w) (List.mem_cons_of_mem _ (List.mem_filter.mpr ⟨u_prs_mem.mpr ⟨hj, hw⟩, ?_⟩))
      have e1 : (j == i) = false := by simp; omega
      have e2 : (j == i + 1) = false := by simp; omega
      simp only [e1, e2, Bool.not_false, Bool.true_and]
      cases i with
      | zero => simp
      | succ i =>
        by_cases hji : j = i
        · subst hji
          simp only [u_st1, bne_iff_ne, ne_eq] at hs
          rw [List.getD_eq_getElem?_getD, hj] at hs
          simpa using hs
        · simp; omega
/-- the locals at a method's entry -/
def u_ent (n : Nat) (as : List Value) : List Value :=
  let xs := as.flatMap fun v => if v.category = 2 then [v, .null] else [v]
  xs ++ List.replicate (n - xs.length) .null
theorem u_args_mem : ∀ (as : List Value) (k i : Nat) (v : Value), (as.flatMap fun v => if v.category = 2 then [v, .null] else [v])[i]? = some v → v ≠ .null → (k + i, v) ∈ lv_args k as
  | [], k, i, v, h, _ => by simp at h
  | a :: as, k, i, v, h, hv => by
    by_cases hc : a.category = 2
    · simp only [List.flatMap_cons, if_pos hc, lv_args] at h ⊢
      match i, h with
      | 0, h =>
        simp at h
        subst h
        exact List.mem_cons_self
      | 1, h =>
        simp at h
        exact absurd h.symm hv
      | i + 2, h =>
        simp only [List.cons_append, List.nil_append, List.getElem?_cons_succ] at h
        have := u_args_mem as (k + 2) i v h hv
        rw [show k + (i + 2) = k + 2 + i by omega]
        exact List.mem_cons_of_mem _ this
    · simp only [List.flatMap_cons, if_neg hc, lv_args] at h ⊢
      match i, h with
      | 0, h =>
        simp at h
        subst h
        exact List.mem_cons_self
      | i + 1, h =>
        simp only [List.cons_append, List.nil_append, List.getElem?_cons_succ] at h
        have := u_args_mem as (k + 1) i v h hv
        rw [show k + (i + 1) = k + 1 + i by omega]
        exact List.mem_cons_of_mem _ this
theorem u_len_ent : ∀ (as : List Value), (as.flatMap fun v => if v.category = 2 then [v, Value.null] else [v]).length = (lg_sl as).length
  | [] => rfl
  | a :: as => by
    have := u_len_ent as
    by_cases hc : a.category = 2
    · simp only [List.flatMap_cons, if_pos hc, lg_sl, List.length_append] at this ⊢
      rw [this]; rfl
    · simp only [List.flatMap_cons, if_neg hc, lg_sl, List.length_append] at this ⊢
      rw [this]; rfl
theorem u_LR.entry (as : List Value) {n : Nat} (h : (lg_sl as).length ≤ n) : u_LR n (u_ent n as) ((lg_sl as ++ List.replicate (n - (lg_sl as).length) Slot.unset).toArray) := by
  obtain ⟨h1, h2, h3⟩ := lv_entry as h
  refine ⟨h1, h2, ?_, fun i v hi hv => ?_⟩
  · simp only [u_ent, List.length_append, List.length_replicate, u_len_ent]
    omega
  · have key : (as.flatMap fun v => if v.category = 2 then [v, Value.null] else [v])[i]? = some v := by
      simp only [u_ent] at hi
      by_cases hl : i < (as.flatMap fun v => if v.category = 2 then [v, Value.null] else [v]).length
      · rwa [List.getElem?_append_left hl] at hi
      · rw [List.getElem?_append_right (by omega)] at hi
        exact absurd (List.eq_of_mem_replicate (List.mem_of_getElem? hi)) hv
    have := u_args_mem as 0 i v key hv
    rw [Nat.zero_add] at this
    exact h3 _ this
end
section
/-! ONE STEP OF THE ABSTRACT MACHINE, an instruction a row: each is proved out of the kit's row -/
def uD (cc : ByteArray) (pc : Nat) (i : Instr) (len np : Nat) : Prop := decode cc pc = .ok (i, len) ∧ pc + len = np
def uB (cc : ByteArray) (pc : Nat) (f : Int → Instr) (np tg : Nat) : Prop := ∃ off : Int, decode cc pc = .ok (f off, 3) ∧ pc + 3 = np ∧ (pc : Int) + off = (tg : Int)
def u_set (h : uHp) (a : Nat) (c : uCel) : uHp := (h.1, fun b => if b = a then some c else h.2 b)
def u_push (h : uHp) (c : uCel) : uHp := (h.1 + 1, fun b => if b = h.1 then some c else h.2 b)
theorem u_set_1 (h : uHp) (a : Nat) (c : uCel) : (u_set h a c).1 = h.1 := rfl
theorem u_set_eq (h : uHp) (a : Nat) (c : uCel) : (u_set h a c).2 a = some c := if_pos rfl
theorem u_set_ne {h : uHp} {a b : Nat} {c : uCel} (hb : b ≠ a) : (u_set h a c).2 b = h.2 b := if_neg hb
theorem u_push_1 (h : uHp) (c : uCel) : (u_push h c).1 = h.1 + 1 := rfl
theorem u_push_eq (h : uHp) (c : uCel) : (u_push h c).2 h.1 = some c := if_pos rfl
theorem u_push_ne {h : uHp} {b : Nat} {c : uCel} (hb : b ≠ h.1) : (u_push h c).2 b = h.2 b := if_neg hb
theorem u_at.kept {G : uG} {a : Nat} {c : uCel} {H H1 : Heap} (h : u_at G a c H) (hq : H1[a]? = H[a]?) : u_at G a c H1 := by
  cases c with
  | inl x =>
    obtain ⟨r, h1, h2, h3⟩ := h
    exact ⟨r, h1, h2, h3.kept hq⟩
  | inr x => exact ⟨h.1, hq.trans h.2⟩
theorem u_at.lt {G : uG} {a : Nat} {c : uCel} {H : Heap} (h : u_at G a c H) : a < H.size := by
  cases c with
  | inl x =>
    obtain ⟨r, h1, h2, cell, h3, -⟩ := h
    exact (Array.getElem?_eq_some_iff.mp h3).1
  | inr x => exact (Array.getElem?_eq_some_iff.mp h.2).1
theorem u_Rel.put {G : uG} {B : Nat} {h : uHp} {H H1 : Heap} {a : Nat} {c0 c : uCel} (hR : u_Rel G B h H) (ha : h.2 a = some c0) (hc : u_at G a c H1) (z : H1.size = H.size) (o : ∀ q : Nat, q ≠ a → H1[q]? = H[q]?) : u_Rel G B (u_set h a c) H1 := by
  refine ⟨hR.1.trans z.symm, fun b cb hb => ?_⟩
  by_cases hba : b = a
  · subst hba
    rw [u_set_eq] at hb
    cases hb
    exact ⟨(hR.2 b c0 ha).1, hc⟩
  · rw [u_set_ne hba] at hb
    exact ⟨(hR.2 b cb hb).1, (hR.2 b cb hb).2.kept (o b hba)⟩
theorem u_Rel.push {G : uG} {B : Nat} {h : uHp} {H H1 : Heap} {c : uCel} (hR : u_Rel G B h H) (hB : B ≤ H.size) (hc : u_at G H.size c H1) (z : H1.size = H.size + 1) (o : ∀ q : Nat, q < H.size → H1[q]? = H[q]?) : u_Rel G B (u_push h c) H1 := by
  refine ⟨by rw [u_push_1, hR.1, z], fun b cb hb => ?_⟩
  by_cases hba : b = h.1
  · subst hba
    rw [u_push_eq] at hb
    cases hb
    rw [hR.1]
    exact ⟨hB, hc⟩
  · rw [u_push_ne hba] at hb
    have h2 := hR.2 b cb hb
    exact ⟨h2.1, h2.2.kept (o b h2.2.lt)⟩
theorem u_rng {x : Int} (h1 : -2147483648 ≤ x) (h2 : x ≤ 2147483647) : (Int32.ofInt x).toInt = x := Int32.toInt_ofInt_of_le (by omega) (by omega)
theorem u_rngL {x : Int} (h1 : -9223372036854775808 ≤ x) (h2 : x ≤ 9223372036854775807) : (Int64.ofInt x).toInt = x := Int64.toInt_ofInt_of_le (by omega) (by omega)
theorem u_clamp {x : Int} (h1 : -2147483648 ≤ x) (h2 : x ≤ 2147483647) : (Int32.ofInt x).toNatClampNeg = x.toNat := Int32.toNatClampNeg_ofInt_of_le (by omega) (by omega)
abbrev ub (b : Bool) : Value := ui (if b = true then 1 else 0)
section US
variable {M : uM} {pc np tg : Nat} {l l' st : List Value} {h : uHp} {k n : Nat} {Q : uPs}
theorem u_eqS {st2 : List Value} (he : st = st2) (K : uW M pc l st2 h k n Q) : uW M pc l st h k n Q := he ▸ K
/-- the number on top, said otherwise -/
theorem u_top {x y : Int} (he : x = y) (K : uW M pc l (ui y :: st) h k n Q) : uW M pc l (ui x :: st) h k n Q := he ▸ K
theorem u_topR {x : Int32} {y : Int} (he : x = Int32.ofInt y) (K : uW M pc l (ui y :: st) h k n Q) : uW M pc l (.int x :: st) h k n Q := by subst he; exact K
theorem u_topL {x : Int64} {y : Int} (he : x = Int64.ofInt y) (K : uW M pc l (uj y :: st) h k n Q) : uW M pc l (.long x :: st) h k n Q := by subst he; exact K
theorem u_locs (he : l = l') (K : uW M pc l' st h k n Q) : uW M pc l st h k n Q := he ▸ K
theorem u_post {Q' : uPs} (hq : ∀ v h', Q v h' → Q' v h') (K : uW M pc l st h k n Q) : uW M pc l st h k n Q' := by
  intro G B p la e R s m args below meth c Qf C F H locs ls hR hS hL
  exact K G B p la e R s m args below meth c Qf C (fun H locs ls h pc k n v a1 a2 a3 a4 a5 a6 => F H locs ls h pc k n v a1 a2 a3 a4 (hq _ _ a5) a6) H locs ls hR hS hL
theorem us_iconst {z : Int} (hd : uD M.cc pc (.iconst z) 1 np) (K : uW M np l (ui z :: st) h k n Q) : uW M pc l (st) h k n Q := by
  intro G B p la e R s m args below meth c Qf C F H locs ls hR hS hL
  obtain ⟨hd, rfl⟩ := hd
  exact lv_iconst C.1 C.2.1 hd rfl (K G B p la e R s m args below meth c Qf C F H locs ls hR hS hL)
theorem us_bipush {z : Int} (hd : uD M.cc pc (.bipush z) 2 np) (hz : (Int8.ofInt z).toInt32 = Int32.ofInt z) (K : uW M np l (ui z :: st) h k n Q) : uW M pc l (st) h k n Q := by
  intro G B p la e R s m args below meth c Qf C F H locs ls hR hS hL
  obtain ⟨hd, rfl⟩ := hd
  exact lv_bipush C.1 C.2.1 hd hz (K G B p la e R s m args below meth c Qf C F H locs ls hR hS hL)
theorem us_sipush {z : Int} (hd : uD M.cc pc (.sipush z) 3 np) (hz : (Int16.ofInt z).toInt32 = Int32.ofInt z) (K : uW M np l (ui z :: st) h k n Q) : uW M pc l (st) h k n Q := by
  intro G B p la e R s m args below meth c Qf C F H locs ls hR hS hL
  obtain ⟨hd, rfl⟩ := hd
  exact lv_sipush C.1 C.2.1 hd hz (K G B p la e R s m args below meth c Qf C F H locs ls hR hS hL)
theorem us_lconst {z : Fin 2} (hd : uD M.cc pc (.lconst z) 1 np) (K : uW M np l (uj ((z : Nat) : Int) :: st) h k n Q) : uW M pc l (st) h k n Q := by
  intro G B p la e R s m args below meth c Qf C F H locs ls hR hS hL
  obtain ⟨hd, rfl⟩ := hd
  exact lv_lconst C.1 C.2.1 hd (by rfl) (K G B p la e R s m args below meth c Qf C F H locs ls hR hS hL)
theorem us_iload_n {z : Fin 4} {x : Int32} (hd : uD M.cc pc (.iload_n z) 1 np) (hl : l[(z : Nat)]? = some (.int x)) (K : uW M np l (.int x :: st) h k n Q) : uW M pc l (st) h k n Q := by
  intro G B p la e R s m args below meth c Qf C F H locs ls hR hS hL
  obtain ⟨hd, rfl⟩ := hd
  exact lv_iload_n C.1 C.2.1 hd rfl (hL.2.2.2 _ _ hl (fun q => by cases q)) (K G B p la e R s m args below meth c Qf C F H locs ls hR hS hL)
theorem us_iload {z : Nat} {x : Int32} (hd : uD M.cc pc (.iload z) 2 np) (hl : l[z]? = some (.int x)) (K : uW M np l (.int x :: st) h k n Q) : uW M pc l (st) h k n Q := by
  intro G B p la e R s m args below meth c Qf C F H locs ls hR hS hL
  obtain ⟨hd, rfl⟩ := hd
  exact lv_iload C.1 C.2.1 hd (hL.2.2.2 _ _ hl (fun q => by cases q)) (K G B p la e R s m args below meth c Qf C F H locs ls hR hS hL)
theorem us_lload_n {z : Fin 4} {x : Int64} (hd : uD M.cc pc (.lload_n z) 1 np) (hl : l[(z : Nat)]? = some (.long x)) (K : uW M np l (.long x :: st) h k n Q) : uW M pc l (st) h k n Q := by
  intro G B p la e R s m args below meth c Qf C F H locs ls hR hS hL
  obtain ⟨hd, rfl⟩ := hd
  exact lv_lload_n C.1 C.2.1 hd rfl (hL.2.2.2 _ _ hl (fun q => by cases q)) (K G B p la e R s m args below meth c Qf C F H locs ls hR hS hL)
theorem us_lload {z : Nat} {x : Int64} (hd : uD M.cc pc (.lload z) 2 np) (hl : l[z]? = some (.long x)) (K : uW M np l (.long x :: st) h k n Q) : uW M pc l (st) h k n Q := by
  intro G B p la e R s m args below meth c Qf C F H locs ls hR hS hL
  obtain ⟨hd, rfl⟩ := hd
  exact lv_lload C.1 C.2.1 hd (hL.2.2.2 _ _ hl (fun q => by cases q)) (K G B p la e R s m args below meth c Qf C F H locs ls hR hS hL)
theorem us_aload_n {z : Fin 4} {x : Nat} (hd : uD M.cc pc (.aload_n z) 1 np) (hl : l[(z : Nat)]? = some (.ref x)) (K : uW M np l (.ref x :: st) h k n Q) : uW M pc l (st) h k n Q := by
  intro G B p la e R s m args below meth c Qf C F H locs ls hR hS hL
  obtain ⟨hd, rfl⟩ := hd
  exact lv_aload_n C.1 C.2.1 hd rfl (hL.2.2.2 _ _ hl (fun q => by cases q)) (K G B p la e R s m args below meth c Qf C F H locs ls hR hS hL)
theorem us_aload {z : Nat} {x : Nat} (hd : uD M.cc pc (.aload z) 2 np) (hl : l[z]? = some (.ref x)) (K : uW M np l (.ref x :: st) h k n Q) : uW M pc l (st) h k n Q := by
  intro G B p la e R s m args below meth c Qf C F H locs ls hR hS hL
  obtain ⟨hd, rfl⟩ := hd
  exact lv_aload C.1 C.2.1 hd (hL.2.2.2 _ _ hl (fun q => by cases q)) (K G B p la e R s m args below meth c Qf C F H locs ls hR hS hL)
theorem us_istore_n {z : Fin 4} {x : Int32} (hd : uD M.cc pc (.istore_n z) 1 np) (hs : u_st1 l (z : Nat) = true) (hi : (z : Nat) < M.nL) (he : l.set (z : Nat) (.int x) = l') (K : uW M np l' st h k n Q) : uW M pc l (.int x :: st) h k n Q := by
  intro G B p la e R s m args below meth c Qf C F H locs ls hR hS hL
  obtain ⟨hd, rfl⟩ := hd
  refine lv_istore_n C.1 C.2.1 hd rfl hL.has hi rfl (fun ls' h' => ?_)
  exact K G B p la e R s m args below meth c Qf C F H locs ls' hR hS (he ▸ hL.store hs h')
theorem us_istore {z : Nat} {x : Int32} (hd : uD M.cc pc (.istore z) 2 np) (hs : u_st1 l z = true) (hi : z < M.nL) (he : l.set z (.int x) = l') (K : uW M np l' st h k n Q) : uW M pc l (.int x :: st) h k n Q := by
  intro G B p la e R s m args below meth c Qf C F H locs ls hR hS hL
  obtain ⟨hd, rfl⟩ := hd
  refine lv_istore C.1 C.2.1 hd hL.has hi rfl (fun ls' h' => ?_)
  exact K G B p la e R s m args below meth c Qf C F H locs ls' hR hS (he ▸ hL.store hs h')
theorem us_lstore_n {z : Fin 4} {x : Int64} (hd : uD M.cc pc (.lstore_n z) 1 np) (hs : u_st1 l (z : Nat) = true) (hi : (z : Nat) + 1 < M.nL) (he : (l.set (z : Nat) (.long x)).set ((z : Nat) + 1) .null = l') (K : uW M np l' st h k n Q) : uW M pc l (.long x :: st) h k n Q := by
  intro G B p la e R s m args below meth c Qf C F H locs ls hR hS hL
  obtain ⟨hd, rfl⟩ := hd
  refine lv_lstore_n C.1 C.2.1 hd rfl hL.has hi rfl (fun ls' h' => ?_)
  exact K G B p la e R s m args below meth c Qf C F H locs ls' hR hS (he ▸ hL.store2 hs h')
theorem us_lstore {z : Nat} {x : Int64} (hd : uD M.cc pc (.lstore z) 2 np) (hs : u_st1 l z = true) (hi : z + 1 < M.nL) (he : (l.set z (.long x)).set (z + 1) .null = l') (K : uW M np l' st h k n Q) : uW M pc l (.long x :: st) h k n Q := by
  intro G B p la e R s m args below meth c Qf C F H locs ls hR hS hL
  obtain ⟨hd, rfl⟩ := hd
  refine lv_lstore C.1 C.2.1 hd hL.has hi rfl (fun ls' h' => ?_)
  exact K G B p la e R s m args below meth c Qf C F H locs ls' hR hS (he ▸ hL.store2 hs h')
theorem us_astore_n {z : Fin 4} {x : Nat} (hd : uD M.cc pc (.astore_n z) 1 np) (hs : u_st1 l (z : Nat) = true) (hi : (z : Nat) < M.nL) (he : l.set (z : Nat) (.ref x) = l') (K : uW M np l' st h k n Q) : uW M pc l (.ref x :: st) h k n Q := by
  intro G B p la e R s m args below meth c Qf C F H locs ls hR hS hL
  obtain ⟨hd, rfl⟩ := hd
  refine lv_astore_n C.1 C.2.1 hd rfl hL.has hi rfl (fun ls' h' => ?_)
  exact K G B p la e R s m args below meth c Qf C F H locs ls' hR hS (he ▸ hL.store hs h')
theorem us_astore {z : Nat} {x : Nat} (hd : uD M.cc pc (.astore z) 2 np) (hs : u_st1 l z = true) (hi : z < M.nL) (he : l.set z (.ref x) = l') (K : uW M np l' st h k n Q) : uW M pc l (.ref x :: st) h k n Q := by
  intro G B p la e R s m args below meth c Qf C F H locs ls hR hS hL
  obtain ⟨hd, rfl⟩ := hd
  refine lv_astore C.1 C.2.1 hd hL.has hi rfl (fun ls' h' => ?_)
  exact K G B p la e R s m args below meth c Qf C F H locs ls' hR hS (he ▸ hL.store hs h')
theorem us_iinc {i : Nat} {z x : Int} (hd : uD M.cc pc (.iinc i z) 3 np) (hl : l[i]? = some (ui x)) (hs : u_st1 l i = true) (hi : i < M.nL) (he : l.set i (ui (x + z)) = l') (K : uW M np l' st h k n Q) : uW M pc l st h k n Q := by
  intro G B p la e R s m args below meth c Qf C F H locs ls hR hS hL
  obtain ⟨hd, rfl⟩ := hd
  obtain ⟨j, hj⟩ := List.getElem?_of_mem (u_prs_mem.mpr ⟨hl, fun q => by cases q⟩)
  refine lv_iinc C.1 C.2.1 hd hL.has hj (Int32.ofInt_add x z).symm hi rfl (fun ls' h' => ?_)
  exact K G B p la e R s m args below meth c Qf C F H locs ls' hR hS (he ▸ hL.store hs h')
theorem us_iadd {x y : Int} (hd : uD M.cc pc (.iadd) 1 np) (K : uW M np l (ui (x + y) :: st) h k n Q) : uW M pc l (ui y :: ui x :: st) h k n Q := by
  intro G B p la e R s m args below meth c Qf C F H locs ls hR hS hL
  obtain ⟨hd, rfl⟩ := hd
  exact lv_iadd C.1 C.2.1 hd (by rw [← Int32.ofInt_add]; exact (K G B p la e R s m args below meth c Qf C F H locs ls hR hS hL))
theorem us_isub {x y : Int} (hd : uD M.cc pc (.isub) 1 np) (K : uW M np l (ui (x - y) :: st) h k n Q) : uW M pc l (ui y :: ui x :: st) h k n Q := by
  intro G B p la e R s m args below meth c Qf C F H locs ls hR hS hL
  obtain ⟨hd, rfl⟩ := hd
  exact lv_isub C.1 C.2.1 hd (by rw [← Int32.ofInt_sub]; exact (K G B p la e R s m args below meth c Qf C F H locs ls hR hS hL))
theorem us_imul {x y : Int} (hd : uD M.cc pc (.imul) 1 np) (K : uW M np l (ui (x * y) :: st) h k n Q) : uW M pc l (ui y :: ui x :: st) h k n Q := by
  intro G B p la e R s m args below meth c Qf C F H locs ls hR hS hL
  obtain ⟨hd, rfl⟩ := hd
  exact lv_imul C.1 C.2.1 hd (by rw [← Int32.ofInt_mul]; exact (K G B p la e R s m args below meth c Qf C F H locs ls hR hS hL))
theorem us_ladd {x y : Int} (hd : uD M.cc pc (.ladd) 1 np) (K : uW M np l (uj (x + y) :: st) h k n Q) : uW M pc l (uj y :: uj x :: st) h k n Q := by
  intro G B p la e R s m args below meth c Qf C F H locs ls hR hS hL
  obtain ⟨hd, rfl⟩ := hd
  exact lv_ladd C.1 C.2.1 hd (by rw [← Int64.ofInt_add]; exact (K G B p la e R s m args below meth c Qf C F H locs ls hR hS hL))
theorem us_lsub {x y : Int} (hd : uD M.cc pc (.lsub) 1 np) (K : uW M np l (uj (x - y) :: st) h k n Q) : uW M pc l (uj y :: uj x :: st) h k n Q := by
  intro G B p la e R s m args below meth c Qf C F H locs ls hR hS hL
  obtain ⟨hd, rfl⟩ := hd
  exact lv_lsub C.1 C.2.1 hd (by rw [← Int64.ofInt_sub]; exact (K G B p la e R s m args below meth c Qf C F H locs ls hR hS hL))
theorem us_lmul {x y : Int} (hd : uD M.cc pc (.lmul) 1 np) (K : uW M np l (uj (x * y) :: st) h k n Q) : uW M pc l (uj y :: uj x :: st) h k n Q := by
  intro G B p la e R s m args below meth c Qf C F H locs ls hR hS hL
  obtain ⟨hd, rfl⟩ := hd
  exact lv_lmul C.1 C.2.1 hd (by rw [← Int64.ofInt_mul]; exact (K G B p la e R s m args below meth c Qf C F H locs ls hR hS hL))
theorem us_iand {x y : Int32} (hd : uD M.cc pc (.iand) 1 np) (K : uW M np l (.int (x &&& y) :: st) h k n Q) : uW M pc l (.int y :: .int x :: st) h k n Q := by
  intro G B p la e R s m args below meth c Qf C F H locs ls hR hS hL
  obtain ⟨hd, rfl⟩ := hd
  exact lv_iand C.1 C.2.1 hd (K G B p la e R s m args below meth c Qf C F H locs ls hR hS hL)
theorem us_ior {x y : Int32} (hd : uD M.cc pc (.ior) 1 np) (K : uW M np l (.int (x ||| y) :: st) h k n Q) : uW M pc l (.int y :: .int x :: st) h k n Q := by
  intro G B p la e R s m args below meth c Qf C F H locs ls hR hS hL
  obtain ⟨hd, rfl⟩ := hd
  exact lv_ior C.1 C.2.1 hd (K G B p la e R s m args below meth c Qf C F H locs ls hR hS hL)
theorem us_ixor {x y : Int32} (hd : uD M.cc pc (.ixor) 1 np) (K : uW M np l (.int (x ^^^ y) :: st) h k n Q) : uW M pc l (.int y :: .int x :: st) h k n Q := by
  intro G B p la e R s m args below meth c Qf C F H locs ls hR hS hL
  obtain ⟨hd, rfl⟩ := hd
  exact lv_ixor C.1 C.2.1 hd (K G B p la e R s m args below meth c Qf C F H locs ls hR hS hL)
theorem us_ishl {x y : Int32} (hd : uD M.cc pc (.ishl) 1 np) (K : uW M np l (.int (x <<< (y &&& 31)) :: st) h k n Q) : uW M pc l (.int y :: .int x :: st) h k n Q := by
  intro G B p la e R s m args below meth c Qf C F H locs ls hR hS hL
  obtain ⟨hd, rfl⟩ := hd
  exact lv_ishl C.1 C.2.1 hd (K G B p la e R s m args below meth c Qf C F H locs ls hR hS hL)
theorem us_ishr {x y : Int32} (hd : uD M.cc pc (.ishr) 1 np) (K : uW M np l (.int (x >>> (y &&& 31)) :: st) h k n Q) : uW M pc l (.int y :: .int x :: st) h k n Q := by
  intro G B p la e R s m args below meth c Qf C F H locs ls hR hS hL
  obtain ⟨hd, rfl⟩ := hd
  exact lv_ishr C.1 C.2.1 hd (K G B p la e R s m args below meth c Qf C F H locs ls hR hS hL)
theorem us_iushr {x y : Int32} (hd : uD M.cc pc (.iushr) 1 np) (K : uW M np l (.int ((x.toUInt32 >>> (y.toUInt32 &&& Int32.toUInt32 31)).toInt32) :: st) h k n Q) : uW M pc l (.int y :: .int x :: st) h k n Q := by
  intro G B p la e R s m args below meth c Qf C F H locs ls hR hS hL
  obtain ⟨hd, rfl⟩ := hd
  exact lv_iushr C.1 C.2.1 hd rfl (K G B p la e R s m args below meth c Qf C F H locs ls hR hS hL)
theorem us_idiv {x y : Int32} (hd : uD M.cc pc (.idiv) 1 np) (hne : ¬ y = 0) (K : uW M np l (.int (x / y) :: st) h k n Q) : uW M pc l (.int y :: .int x :: st) h k n Q := by
  intro G B p la e R s m args below meth c Qf C F H locs ls hR hS hL
  obtain ⟨hd, rfl⟩ := hd
  exact lv_idiv C.1 C.2.1 hd hne (K G B p la e R s m args below meth c Qf C F H locs ls hR hS hL)
theorem us_irem {x y : Int32} (hd : uD M.cc pc (.irem) 1 np) (hne : ¬ y = 0) (K : uW M np l (.int (x - x / y * y) :: st) h k n Q) : uW M pc l (.int y :: .int x :: st) h k n Q := by
  intro G B p la e R s m args below meth c Qf C F H locs ls hR hS hL
  obtain ⟨hd, rfl⟩ := hd
  exact lv_irem C.1 C.2.1 hd hne (K G B p la e R s m args below meth c Qf C F H locs ls hR hS hL)
theorem us_i2l {x : Int} (hd : uD M.cc pc (.i2l) 1 np) (r : -2147483648 ≤ x ∧ x ≤ 2147483647) (K : uW M np l (uj x :: st) h k n Q) : uW M pc l (ui x :: st) h k n Q := by
  intro G B p la e R s m args below meth c Qf C F H locs ls hR hS hL
  obtain ⟨hd, rfl⟩ := hd
  exact lv_i2l C.1 C.2.1 hd (by rw [Int32.toInt64_ofInt (by show (-2147483648 : Int) ≤ x; exact r.1) (by show x ≤ (2147483647 : Int); exact r.2)]) (K G B p la e R s m args below meth c Qf C F H locs ls hR hS hL)
theorem us_l2i {x : Int} (hd : uD M.cc pc (.l2i) 1 np) (K : uW M np l (ui x :: st) h k n Q) : uW M pc l (uj x :: st) h k n Q := by
  intro G B p la e R s m args below meth c Qf C F H locs ls hR hS hL
  obtain ⟨hd, rfl⟩ := hd
  exact lv_l2i C.1 C.2.1 hd Int64.toInt32_ofInt (K G B p la e R s m args below meth c Qf C F H locs ls hR hS hL)
theorem us_i2c {x : Int32} (hd : uD M.cc pc (.i2c) 1 np) (K : uW M np l (.int (x.toUInt32 % 65536).toInt32 :: st) h k n Q) : uW M pc l (.int x :: st) h k n Q := by
  intro G B p la e R s m args below meth c Qf C F H locs ls hR hS hL
  obtain ⟨hd, rfl⟩ := hd
  exact lv_i2c C.1 C.2.1 hd rfl (K G B p la e R s m args below meth c Qf C F H locs ls hR hS hL)
theorem us_dup {v : Value} (hd : uD M.cc pc (.dup) 1 np) (hv : v.category = 1) (K : uW M np l (v :: v :: st) h k n Q) : uW M pc l (v :: st) h k n Q := by
  intro G B p la e R s m args below meth c Qf C F H locs ls hR hS hL
  obtain ⟨hd, rfl⟩ := hd
  exact lv_dup C.1 C.2.1 hd hv (K G B p la e R s m args below meth c Qf C F H locs ls hR hS hL)
theorem us_pop {v : Value} (hd : uD M.cc pc (.pop) 1 np) (hv : v.category = 1) (K : uW M np l (st) h k n Q) : uW M pc l (v :: st) h k n Q := by
  intro G B p la e R s m args below meth c Qf C F H locs ls hR hS hL
  obtain ⟨hd, rfl⟩ := hd
  exact lv_pop C.1 C.2.1 hd hv (K G B p la e R s m args below meth c Qf C F H locs ls hR hS hL)
theorem us_dup2 {v w : Value} (hd : uD M.cc pc (.dup2) 1 np) (hv : v.category = 1) (hw : w.category = 1) (K : uW M np l (v :: w :: v :: w :: st) h k n Q) : uW M pc l (v :: w :: st) h k n Q := by
  intro G B p la e R s m args below meth c Qf C F H locs ls hR hS hL
  obtain ⟨hd, rfl⟩ := hd
  exact lv_dup2_11 C.1 C.2.1 hd hv hw (K G B p la e R s m args below meth c Qf C F H locs ls hR hS hL)
theorem us_lcmp {x y : Int64} (hd : uD M.cc pc (.lcmp) 1 np) (K : uW M np l (.int (lg_cmp x y) :: st) h k n Q) : uW M pc l (.long y :: .long x :: st) h k n Q := by
  intro G B p la e R s m args below meth c Qf C F H locs ls hR hS hL
  obtain ⟨hd, rfl⟩ := hd
  exact W.lcmp C.1 C.2.1 hd (K G B p la e R s m args below meth c Qf C F H locs ls hR hS hL)
theorem us_ldc2 {idx : Nat} {v : Int64} (hd : uD M.cc pc (.ldc2_w idx) 3 np) (hc : Cond.constantLong M.y.cls idx v ∈ uw_W) (K : uW M np l (.long v :: st) h k n Q) : uW M pc l (st) h k n Q := by
  intro G B p la e R s m args below meth c Qf C F H locs ls hR hS hL
  obtain ⟨hd, rfl⟩ := hd
  exact lv_ldc2 C.1 C.2.1 C.2.2.2.2.2.1 (C.2.2.2.2.2.2.2.1 _ hc) hd (K G B p la e R s m args below meth c Qf C F H locs ls hR hS hL)
theorem us_ldcw {idx : Nat} {v : Int32} (hd : uD M.cc pc (.ldc_w idx) 3 np) (hc : Cond.constant M.y.cls idx v ∈ uw_W) (K : uW M np l (.int v :: st) h k n Q) : uW M pc l (st) h k n Q := by
  intro G B p la e R s m args below meth c Qf C F H locs ls hR hS hL
  obtain ⟨hd, rfl⟩ := hd
  exact lv_ldcw C.1 C.2.1 C.2.2.2.2.2.1 (C.2.2.2.2.2.2.2.1 _ hc) hd (K G B p la e R s m args below meth c Qf C F H locs ls hR hS hL)
theorem us_goto (hd : uB M.cc pc .goto np tg) (K : uW M tg l st h k n Q) : uW M pc l st h k n Q := by
  intro G B p la e R s m args below meth c Qf C F H locs ls hR hS hL
  obtain ⟨off, hd, -, ht⟩ := hd
  exact lv_goto C.1 C.2.1 hd ht (K G B p la e R s m args below meth c Qf C F H locs ls hR hS hL)
theorem us_icmp_eq {x y : Int} (hd : uB M.cc pc (.if_icmp .eq) np tg) (r : -2147483648 ≤ x ∧ x ≤ 2147483647 ∧ -2147483648 ≤ y ∧ y ≤ 2147483647) (kt : x = y → uW M tg l st h k n Q) (kf : x ≠ y → uW M np l st h k n Q) : uW M pc l (ui y :: ui x :: st) h k n Q := by
  intro G B p la e R s m args below meth c Qf C F H locs ls hR hS hL
  obtain ⟨off, hd, rfl, ht⟩ := hd
  obtain ⟨r1, r2, r3, r4⟩ := r
  refine lv_icmp_eq C.1 C.2.1 hd ht (fun q => kt ?_ G B p la e R s m args below meth c Qf C F H locs ls hR hS hL) (fun q => kf ?_ G B p la e R s m args below meth c Qf C F H locs ls hR hS hL)
  · first | rw [← Int32.toInt_inj, u_rng r1 r2, u_rng r3 r4] at q | rw [ne_eq, ← Int32.toInt_inj, u_rng r1 r2, u_rng r3 r4] at q | rw [Int32.lt_iff_toInt_lt, u_rng r1 r2, u_rng r3 r4] at q | rw [Int32.le_iff_toInt_le, u_rng r1 r2, u_rng r3 r4] at q | rw [Int32.lt_iff_toInt_lt, u_rng r3 r4, u_rng r1 r2] at q | rw [Int32.le_iff_toInt_le, u_rng r3 r4, u_rng r1 r2] at q
    omega
  · first | rw [← Int32.toInt_inj, u_rng r1 r2, u_rng r3 r4] at q | rw [ne_eq, ← Int32.toInt_inj, u_rng r1 r2, u_rng r3 r4] at q | rw [Int32.lt_iff_toInt_lt, u_rng r1 r2, u_rng r3 r4] at q | rw [Int32.le_iff_toInt_le, u_rng r1 r2, u_rng r3 r4] at q | rw [Int32.lt_iff_toInt_lt, u_rng r3 r4, u_rng r1 r2] at q | rw [Int32.le_iff_toInt_le, u_rng r3 r4, u_rng r1 r2] at q
    omega
theorem us_icmp_ne {x y : Int} (hd : uB M.cc pc (.if_icmp .ne) np tg) (r : -2147483648 ≤ x ∧ x ≤ 2147483647 ∧ -2147483648 ≤ y ∧ y ≤ 2147483647) (kt : x ≠ y → uW M tg l st h k n Q) (kf : x = y → uW M np l st h k n Q) : uW M pc l (ui y :: ui x :: st) h k n Q := by
  intro G B p la e R s m args below meth c Qf C F H locs ls hR hS hL
  obtain ⟨off, hd, rfl, ht⟩ := hd
  obtain ⟨r1, r2, r3, r4⟩ := r
  refine lv_icmp_ne C.1 C.2.1 hd ht (fun q => kt ?_ G B p la e R s m args below meth c Qf C F H locs ls hR hS hL) (fun q => kf ?_ G B p la e R s m args below meth c Qf C F H locs ls hR hS hL)
  · first | rw [← Int32.toInt_inj, u_rng r1 r2, u_rng r3 r4] at q | rw [ne_eq, ← Int32.toInt_inj, u_rng r1 r2, u_rng r3 r4] at q | rw [Int32.lt_iff_toInt_lt, u_rng r1 r2, u_rng r3 r4] at q | rw [Int32.le_iff_toInt_le, u_rng r1 r2, u_rng r3 r4] at q | rw [Int32.lt_iff_toInt_lt, u_rng r3 r4, u_rng r1 r2] at q | rw [Int32.le_iff_toInt_le, u_rng r3 r4, u_rng r1 r2] at q
    omega
  · first | rw [← Int32.toInt_inj, u_rng r1 r2, u_rng r3 r4] at q | rw [ne_eq, ← Int32.toInt_inj, u_rng r1 r2, u_rng r3 r4] at q | rw [Int32.lt_iff_toInt_lt, u_rng r1 r2, u_rng r3 r4] at q | rw [Int32.le_iff_toInt_le, u_rng r1 r2, u_rng r3 r4] at q | rw [Int32.lt_iff_toInt_lt, u_rng r3 r4, u_rng r1 r2] at q | rw [Int32.le_iff_toInt_le, u_rng r3 r4, u_rng r1 r2] at q
    omega
theorem us_icmp_lt {x y : Int} (hd : uB M.cc pc (.if_icmp .lt) np tg) (r : -2147483648 ≤ x ∧ x ≤ 2147483647 ∧ -2147483648 ≤ y ∧ y ≤ 2147483647) (kt : x < y → uW M tg l st h k n Q) (kf : y ≤ x → uW M np l st h k n Q) : uW M pc l (ui y :: ui x :: st) h k n Q := by
  intro G B p la e R s m args below meth c Qf C F H locs ls hR hS hL
  obtain ⟨off, hd, rfl, ht⟩ := hd
  obtain ⟨r1, r2, r3, r4⟩ := r
  refine lv_icmp_lt C.1 C.2.1 hd ht (fun q => kt ?_ G B p la e R s m args below meth c Qf C F H locs ls hR hS hL) (fun q => kf ?_ G B p la e R s m args below meth c Qf C F H locs ls hR hS hL)
  · first | rw [← Int32.toInt_inj, u_rng r1 r2, u_rng r3 r4] at q | rw [ne_eq, ← Int32.toInt_inj, u_rng r1 r2, u_rng r3 r4] at q | rw [Int32.lt_iff_toInt_lt, u_rng r1 r2, u_rng r3 r4] at q | rw [Int32.le_iff_toInt_le, u_rng r1 r2, u_rng r3 r4] at q | rw [Int32.lt_iff_toInt_lt, u_rng r3 r4, u_rng r1 r2] at q | rw [Int32.le_iff_toInt_le, u_rng r3 r4, u_rng r1 r2] at q
    omega
  · first | rw [← Int32.toInt_inj, u_rng r1 r2, u_rng r3 r4] at q | rw [ne_eq, ← Int32.toInt_inj, u_rng r1 r2, u_rng r3 r4] at q | rw [Int32.lt_iff_toInt_lt, u_rng r1 r2, u_rng r3 r4] at q | rw [Int32.le_iff_toInt_le, u_rng r1 r2, u_rng r3 r4] at q | rw [Int32.lt_iff_toInt_lt, u_rng r3 r4, u_rng r1 r2] at q | rw [Int32.le_iff_toInt_le, u_rng r3 r4, u_rng r1 r2] at q
    omega
theorem us_icmp_ge {x y : Int} (hd : uB M.cc pc (.if_icmp .ge) np tg) (r : -2147483648 ≤ x ∧ x ≤ 2147483647 ∧ -2147483648 ≤ y ∧ y ≤ 2147483647) (kt : y ≤ x → uW M tg l st h k n Q) (kf : x < y → uW M np l st h k n Q) : uW M pc l (ui y :: ui x :: st) h k n Q := by
  intro G B p la e R s m args below meth c Qf C F H locs ls hR hS hL
  obtain ⟨off, hd, rfl, ht⟩ := hd
  obtain ⟨r1, r2, r3, r4⟩ := r
  refine lv_icmp_ge C.1 C.2.1 hd ht (fun q => kt ?_ G B p la e R s m args below meth c Qf C F H locs ls hR hS hL) (fun q => kf ?_ G B p la e R s m args below meth c Qf C F H locs ls hR hS hL)
  · first | rw [← Int32.toInt_inj, u_rng r1 r2, u_rng r3 r4] at q | rw [ne_eq, ← Int32.toInt_inj, u_rng r1 r2, u_rng r3 r4] at q | rw [Int32.lt_iff_toInt_lt, u_rng r1 r2, u_rng r3 r4] at q | rw [Int32.le_iff_toInt_le, u_rng r1 r2, u_rng r3 r4] at q | rw [Int32.lt_iff_toInt_lt, u_rng r3 r4, u_rng r1 r2] at q | rw [Int32.le_iff_toInt_le, u_rng r3 r4, u_rng r1 r2] at q
    omega
  · first | rw [← Int32.toInt_inj, u_rng r1 r2, u_rng r3 r4] at q | rw [ne_eq, ← Int32.toInt_inj, u_rng r1 r2, u_rng r3 r4] at q | rw [Int32.lt_iff_toInt_lt, u_rng r1 r2, u_rng r3 r4] at q | rw [Int32.le_iff_toInt_le, u_rng r1 r2, u_rng r3 r4] at q | rw [Int32.lt_iff_toInt_lt, u_rng r3 r4, u_rng r1 r2] at q | rw [Int32.le_iff_toInt_le, u_rng r3 r4, u_rng r1 r2] at q
    omega
theorem us_icmp_gt {x y : Int} (hd : uB M.cc pc (.if_icmp .gt) np tg) (r : -2147483648 ≤ x ∧ x ≤ 2147483647 ∧ -2147483648 ≤ y ∧ y ≤ 2147483647) (kt : y < x → uW M tg l st h k n Q) (kf : x ≤ y → uW M np l st h k n Q) : uW M pc l (ui y :: ui x :: st) h k n Q := by
  intro G B p la e R s m args below meth c Qf C F H locs ls hR hS hL
  obtain ⟨off, hd, rfl, ht⟩ := hd
  obtain ⟨r1, r2, r3, r4⟩ := r
  refine lv_icmp_gt C.1 C.2.1 hd ht (fun q => kt ?_ G B p la e R s m args below meth c Qf C F H locs ls hR hS hL) (fun q => kf ?_ G B p la e R s m args below meth c Qf C F H locs ls hR hS hL)
  · first | rw [← Int32.toInt_inj, u_rng r1 r2, u_rng r3 r4] at q | rw [ne_eq, ← Int32.toInt_inj, u_rng r1 r2, u_rng r3 r4] at q | rw [Int32.lt_iff_toInt_lt, u_rng r1 r2, u_rng r3 r4] at q | rw [Int32.le_iff_toInt_le, u_rng r1 r2, u_rng r3 r4] at q | rw [Int32.lt_iff_toInt_lt, u_rng r3 r4, u_rng r1 r2] at q | rw [Int32.le_iff_toInt_le, u_rng r3 r4, u_rng r1 r2] at q
    omega
  · first | rw [← Int32.toInt_inj, u_rng r1 r2, u_rng r3 r4] at q | rw [ne_eq, ← Int32.toInt_inj, u_rng r1 r2, u_rng r3 r4] at q | rw [Int32.lt_iff_toInt_lt, u_rng r1 r2, u_rng r3 r4] at q | rw [Int32.le_iff_toInt_le, u_rng r1 r2, u_rng r3 r4] at q | rw [Int32.lt_iff_toInt_lt, u_rng r3 r4, u_rng r1 r2] at q | rw [Int32.le_iff_toInt_le, u_rng r3 r4, u_rng r1 r2] at q
    omega
theorem us_icmp_le {x y : Int} (hd : uB M.cc pc (.if_icmp .le) np tg) (r : -2147483648 ≤ x ∧ x ≤ 2147483647 ∧ -2147483648 ≤ y ∧ y ≤ 2147483647) (kt : x ≤ y → uW M tg l st h k n Q) (kf : y < x → uW M np l st h k n Q) : uW M pc l (ui y :: ui x :: st) h k n Q := by
  intro G B p la e R s m args below meth c Qf C F H locs ls hR hS hL
  obtain ⟨off, hd, rfl, ht⟩ := hd
  obtain ⟨r1, r2, r3, r4⟩ := r
  refine lv_icmp_le C.1 C.2.1 hd ht (fun q => kt ?_ G B p la e R s m args below meth c Qf C F H locs ls hR hS hL) (fun q => kf ?_ G B p la e R s m args below meth c Qf C F H locs ls hR hS hL)
  · first | rw [← Int32.toInt_inj, u_rng r1 r2, u_rng r3 r4] at q | rw [ne_eq, ← Int32.toInt_inj, u_rng r1 r2, u_rng r3 r4] at q | rw [Int32.lt_iff_toInt_lt, u_rng r1 r2, u_rng r3 r4] at q | rw [Int32.le_iff_toInt_le, u_rng r1 r2, u_rng r3 r4] at q | rw [Int32.lt_iff_toInt_lt, u_rng r3 r4, u_rng r1 r2] at q | rw [Int32.le_iff_toInt_le, u_rng r3 r4, u_rng r1 r2] at q
    omega
  · first | rw [← Int32.toInt_inj, u_rng r1 r2, u_rng r3 r4] at q | rw [ne_eq, ← Int32.toInt_inj, u_rng r1 r2, u_rng r3 r4] at q | rw [Int32.lt_iff_toInt_lt, u_rng r1 r2, u_rng r3 r4] at q | rw [Int32.le_iff_toInt_le, u_rng r1 r2, u_rng r3 r4] at q | rw [Int32.lt_iff_toInt_lt, u_rng r3 r4, u_rng r1 r2] at q | rw [Int32.le_iff_toInt_le, u_rng r3 r4, u_rng r1 r2] at q
    omega
theorem us_if_eq {x : Int} (hd : uB M.cc pc (.ifCond .eq) np tg) (r : -2147483648 ≤ x ∧ x ≤ 2147483647) (kt : x = 0 → uW M tg l st h k n Q) (kf : x ≠ 0 → uW M np l st h k n Q) : uW M pc l (ui x :: st) h k n Q := by
  intro G B p la e R s m args below meth c Qf C F H locs ls hR hS hL
  obtain ⟨off, hd, rfl, ht⟩ := hd
  obtain ⟨r1, r2⟩ := r
  refine lv_if_eq C.1 C.2.1 hd ht (fun q => kt ?_ G B p la e R s m args below meth c Qf C F H locs ls hR hS hL) (fun q => kf ?_ G B p la e R s m args below meth c Qf C F H locs ls hR hS hL)
  · first | rw [← Int32.toInt_inj, u_rng r1 r2, Int32.toInt_zero] at q | rw [ne_eq, ← Int32.toInt_inj, u_rng r1 r2, Int32.toInt_zero] at q | rw [Int32.lt_iff_toInt_lt, u_rng r1 r2, Int32.toInt_zero] at q | rw [Int32.le_iff_toInt_le, u_rng r1 r2, Int32.toInt_zero] at q | rw [Int32.lt_iff_toInt_lt, Int32.toInt_zero, u_rng r1 r2] at q | rw [Int32.le_iff_toInt_le, Int32.toInt_zero, u_rng r1 r2] at q
    omega
  · first | rw [← Int32.toInt_inj, u_rng r1 r2, Int32.toInt_zero] at q | rw [ne_eq, ← Int32.toInt_inj, u_rng r1 r2, Int32.toInt_zero] at q | rw [Int32.lt_iff_toInt_lt, u_rng r1 r2, Int32.toInt_zero] at q | rw [Int32.le_iff_toInt_le, u_rng r1 r2, Int32.toInt_zero] at q | rw [Int32.lt_iff_toInt_lt, Int32.toInt_zero, u_rng r1 r2] at q | rw [Int32.le_iff_toInt_le, Int32.toInt_zero, u_rng r1 r2] at q
    omega
theorem us_if_ne {x : Int} (hd : uB M.cc pc (.ifCond .ne) np tg) (r : -2147483648 ≤ x ∧ x ≤ 2147483647) (kt : x ≠ 0 → uW M tg l st h k n Q) (kf : x = 0 → uW M np l st h k n Q) : uW M pc l (ui x :: st) h k n Q := by
  intro G B p la e R s m args below meth c Qf C F H locs ls hR hS hL
  obtain ⟨off, hd, rfl, ht⟩ := hd
  obtain ⟨r1, r2⟩ := r
  refine lv_if_ne C.1 C.2.1 hd ht (fun q => kt ?_ G B p la e R s m args below meth c Qf C F H locs ls hR hS hL) (fun q => kf ?_ G B p la e R s m args below meth c Qf C F H locs ls hR hS hL)
  · first | rw [← Int32.toInt_inj, u_rng r1 r2, Int32.toInt_zero] at q | rw [ne_eq, ← Int32.toInt_inj, u_rng r1 r2, Int32.toInt_zero] at q | rw [Int32.lt_iff_toInt_lt, u_rng r1 r2, Int32.toInt_zero] at q | rw [Int32.le_iff_toInt_le, u_rng r1 r2, Int32.toInt_zero] at q | rw [Int32.lt_iff_toInt_lt, Int32.toInt_zero, u_rng r1 r2] at q | rw [Int32.le_iff_toInt_le, Int32.toInt_zero, u_rng r1 r2] at q
    omega
  · first | rw [← Int32.toInt_inj, u_rng r1 r2, Int32.toInt_zero] at q | rw [ne_eq, ← Int32.toInt_inj, u_rng r1 r2, Int32.toInt_zero] at q | rw [Int32.lt_iff_toInt_lt, u_rng r1 r2, Int32.toInt_zero] at q | rw [Int32.le_iff_toInt_le, u_rng r1 r2, Int32.toInt_zero] at q | rw [Int32.lt_iff_toInt_lt, Int32.toInt_zero, u_rng r1 r2] at q | rw [Int32.le_iff_toInt_le, Int32.toInt_zero, u_rng r1 r2] at q
    omega
theorem us_if_lt {x : Int} (hd : uB M.cc pc (.ifCond .lt) np tg) (r : -2147483648 ≤ x ∧ x ≤ 2147483647) (kt : x < 0 → uW M tg l st h k n Q) (kf : 0 ≤ x → uW M np l st h k n Q) : uW M pc l (ui x :: st) h k n Q := by
  intro G B p la e R s m args below meth c Qf C F H locs ls hR hS hL
  obtain ⟨off, hd, rfl, ht⟩ := hd
  obtain ⟨r1, r2⟩ := r
  refine lv_if_lt C.1 C.2.1 hd ht (fun q => kt ?_ G B p la e R s m args below meth c Qf C F H locs ls hR hS hL) (fun q => kf ?_ G B p la e R s m args below meth c Qf C F H locs ls hR hS hL)
  · first | rw [← Int32.toInt_inj, u_rng r1 r2, Int32.toInt_zero] at q | rw [ne_eq, ← Int32.toInt_inj, u_rng r1 r2, Int32.toInt_zero] at q | rw [Int32.lt_iff_toInt_lt, u_rng r1 r2, Int32.toInt_zero] at q | rw [Int32.le_iff_toInt_le, u_rng r1 r2, Int32.toInt_zero] at q | rw [Int32.lt_iff_toInt_lt, Int32.toInt_zero, u_rng r1 r2] at q | rw [Int32.le_iff_toInt_le, Int32.toInt_zero, u_rng r1 r2] at q
    omega
  · first | rw [← Int32.toInt_inj, u_rng r1 r2, Int32.toInt_zero] at q | rw [ne_eq, ← Int32.toInt_inj, u_rng r1 r2, Int32.toInt_zero] at q | rw [Int32.lt_iff_toInt_lt, u_rng r1 r2, Int32.toInt_zero] at q | rw [Int32.le_iff_toInt_le, u_rng r1 r2, Int32.toInt_zero] at q | rw [Int32.lt_iff_toInt_lt, Int32.toInt_zero, u_rng r1 r2] at q | rw [Int32.le_iff_toInt_le, Int32.toInt_zero, u_rng r1 r2] at q
    omega
theorem us_if_ge {x : Int} (hd : uB M.cc pc (.ifCond .ge) np tg) (r : -2147483648 ≤ x ∧ x ≤ 2147483647) (kt : 0 ≤ x → uW M tg l st h k n Q) (kf : x < 0 → uW M np l st h k n Q) : uW M pc l (ui x :: st) h k n Q := by
  intro G B p la e R s m args below meth c Qf C F H locs ls hR hS hL
  obtain ⟨off, hd, rfl, ht⟩ := hd
  obtain ⟨r1, r2⟩ := r
  refine lv_if_ge C.1 C.2.1 hd ht (fun q => kt ?_ G B p la e R s m args below meth c Qf C F H locs ls hR hS hL) (fun q => kf ?_ G B p la e R s m args below meth c Qf C F H locs ls hR hS hL)
  · first | rw [← Int32.toInt_inj, u_rng r1 r2, Int32.toInt_zero] at q | rw [ne_eq, ← Int32.toInt_inj, u_rng r1 r2, Int32.toInt_zero] at q | rw [Int32.lt_iff_toInt_lt, u_rng r1 r2, Int32.toInt_zero] at q | rw [Int32.le_iff_toInt_le, u_rng r1 r2, Int32.toInt_zero] at q | rw [Int32.lt_iff_toInt_lt, Int32.toInt_zero, u_rng r1 r2] at q | rw [Int32.le_iff_toInt_le, Int32.toInt_zero, u_rng r1 r2] at q
    omega
  · first | rw [← Int32.toInt_inj, u_rng r1 r2, Int32.toInt_zero] at q | rw [ne_eq, ← Int32.toInt_inj, u_rng r1 r2, Int32.toInt_zero] at q | rw [Int32.lt_iff_toInt_lt, u_rng r1 r2, Int32.toInt_zero] at q | rw [Int32.le_iff_toInt_le, u_rng r1 r2, Int32.toInt_zero] at q | rw [Int32.lt_iff_toInt_lt, Int32.toInt_zero, u_rng r1 r2] at q | rw [Int32.le_iff_toInt_le, Int32.toInt_zero, u_rng r1 r2] at q
    omega
theorem us_if_gt {x : Int} (hd : uB M.cc pc (.ifCond .gt) np tg) (r : -2147483648 ≤ x ∧ x ≤ 2147483647) (kt : 0 < x → uW M tg l st h k n Q) (kf : x ≤ 0 → uW M np l st h k n Q) : uW M pc l (ui x :: st) h k n Q := by
  intro G B p la e R s m args below meth c Qf C F H locs ls hR hS hL
  obtain ⟨off, hd, rfl, ht⟩ := hd
  obtain ⟨r1, r2⟩ := r
  refine lv_if_gt C.1 C.2.1 hd ht (fun q => kt ?_ G B p la e R s m args below meth c Qf C F H locs ls hR hS hL) (fun q => kf ?_ G B p la e R s m args below meth c Qf C F H locs ls hR hS hL)
  · first | rw [← Int32.toInt_inj, u_rng r1 r2, Int32.toInt_zero] at q | rw [ne_eq, ← Int32.toInt_inj, u_rng r1 r2, Int32.toInt_zero] at q | rw [Int32.lt_iff_toInt_lt, u_rng r1 r2, Int32.toInt_zero] at q | rw [Int32.le_iff_toInt_le, u_rng r1 r2, Int32.toInt_zero] at q | rw [Int32.lt_iff_toInt_lt, Int32.toInt_zero, u_rng r1 r2] at q | rw [Int32.le_iff_toInt_le, Int32.toInt_zero, u_rng r1 r2] at q
    omega
  · first | rw [← Int32.toInt_inj, u_rng r1 r2, Int32.toInt_zero] at q | rw [ne_eq, ← Int32.toInt_inj, u_rng r1 r2, Int32.toInt_zero] at q | rw [Int32.lt_iff_toInt_lt, u_rng r1 r2, Int32.toInt_zero] at q | rw [Int32.le_iff_toInt_le, u_rng r1 r2, Int32.toInt_zero] at q | rw [Int32.lt_iff_toInt_lt, Int32.toInt_zero, u_rng r1 r2] at q | rw [Int32.le_iff_toInt_le, Int32.toInt_zero, u_rng r1 r2] at q
    omega
theorem us_if_le {x : Int} (hd : uB M.cc pc (.ifCond .le) np tg) (r : -2147483648 ≤ x ∧ x ≤ 2147483647) (kt : x ≤ 0 → uW M tg l st h k n Q) (kf : 0 < x → uW M np l st h k n Q) : uW M pc l (ui x :: st) h k n Q := by
  intro G B p la e R s m args below meth c Qf C F H locs ls hR hS hL
  obtain ⟨off, hd, rfl, ht⟩ := hd
  obtain ⟨r1, r2⟩ := r
  refine lv_if_le C.1 C.2.1 hd ht (fun q => kt ?_ G B p la e R s m args below meth c Qf C F H locs ls hR hS hL) (fun q => kf ?_ G B p la e R s m args below meth c Qf C F H locs ls hR hS hL)
  · first | rw [← Int32.toInt_inj, u_rng r1 r2, Int32.toInt_zero] at q | rw [ne_eq, ← Int32.toInt_inj, u_rng r1 r2, Int32.toInt_zero] at q | rw [Int32.lt_iff_toInt_lt, u_rng r1 r2, Int32.toInt_zero] at q | rw [Int32.le_iff_toInt_le, u_rng r1 r2, Int32.toInt_zero] at q | rw [Int32.lt_iff_toInt_lt, Int32.toInt_zero, u_rng r1 r2] at q | rw [Int32.le_iff_toInt_le, Int32.toInt_zero, u_rng r1 r2] at q
    omega
  · first | rw [← Int32.toInt_inj, u_rng r1 r2, Int32.toInt_zero] at q | rw [ne_eq, ← Int32.toInt_inj, u_rng r1 r2, Int32.toInt_zero] at q | rw [Int32.lt_iff_toInt_lt, u_rng r1 r2, Int32.toInt_zero] at q | rw [Int32.le_iff_toInt_le, u_rng r1 r2, Int32.toInt_zero] at q | rw [Int32.lt_iff_toInt_lt, Int32.toInt_zero, u_rng r1 r2] at q | rw [Int32.le_iff_toInt_le, Int32.toInt_zero, u_rng r1 r2] at q
    omega
theorem us_ifb_eq {b : Bool} (hd : uB M.cc pc (.ifCond .eq) np tg) (kt : b = false → uW M tg l st h k n Q) (kf : b = true → uW M np l st h k n Q) : uW M pc l (ub b :: st) h k n Q := by
  refine us_if_eq hd (by cases b <;> decide) (fun q => kt ?_) (fun q => kf ?_)
  · cases b <;> simp_all
  · cases b <;> simp_all
theorem us_ifb_ne {b : Bool} (hd : uB M.cc pc (.ifCond .ne) np tg) (kt : b = true → uW M tg l st h k n Q) (kf : b = false → uW M np l st h k n Q) : uW M pc l (ub b :: st) h k n Q := by
  refine us_if_ne hd (by cases b <;> decide) (fun q => kt ?_) (fun q => kf ?_)
  · cases b <;> simp_all
  · cases b <;> simp_all
theorem us_tableIn {dflt lo hi : Int} {offs : Array Int} {len : Nat} {x off : Int} (hd : decode M.cc pc = .ok (.tableswitch dflt lo hi offs, len)) (r : -2147483648 ≤ x ∧ x ≤ 2147483647) (h1 : lo ≤ x ∧ x ≤ hi) (ho : offs[(x - lo).toNat]? = some off) (ht : (pc : Int) + off = (tg : Int)) (K : uW M tg l st h k n Q) : uW M pc l (ui x :: st) h k n Q := by
  intro G B p la e R s m args below meth c Qf C F H locs ls hR hS hL
  have ee := u_rng r.1 r.2
  exact lv_tableIn C.1 C.2.1 hd (by rw [ee]; omega) (by rw [ee]; omega) (by rw [ee]; exact ho) ht (K G B p la e R s m args below meth c Qf C F H locs ls hR hS hL)
theorem us_tableOut {dflt lo hi : Int} {offs : Array Int} {len : Nat} {x : Int} (hd : decode M.cc pc = .ok (.tableswitch dflt lo hi offs, len)) (r : -2147483648 ≤ x ∧ x ≤ 2147483647) (h1 : x < lo ∨ hi < x) (ht : (pc : Int) + dflt = (tg : Int)) (K : uW M tg l st h k n Q) : uW M pc l (ui x :: st) h k n Q := by
  intro G B p la e R s m args below meth c Qf C F H locs ls hR hS hL
  have ee := u_rng r.1 r.2
  exact lv_tableOut C.1 C.2.1 hd (by rw [ee]; exact h1) ht (K G B p la e R s m args below meth c Qf C F H locs ls hR hS hL)
end US
end
section
/-! the abstract machine's rows for the heap: fields, arrays, what is made -/
def u_lkF (own : String) (idx ci fk : Nat) (ty : FieldType) : Prop := ∃ r : vw_C, u_cls[ci]? = some r ∧ fk < r.2.2 ∧ (r.2.1 fk).1 = r.1 ∧ parseFieldDescriptor (r.2.1 fk).2.2.1 = some ty ∧
  (Cond.fieldLink own idx r.1 (r.2.1 fk).2.1 (r.2.1 fk).2.2.1 ∈ uw_W ∨ ∃ host, (own, idx, r.1, (r.2.1 fk).2.1, (r.2.1 fk).2.2.1, host) ∈ u_nestF)
/-- .. of a field that is not final -/
def u_lkP (own : String) (idx ci fk : Nat) (ty : FieldType) : Prop := ∃ r : vw_C, u_cls[ci]? = some r ∧ fk < r.2.2 ∧ (r.2.1 fk).1 = r.1 ∧ (r.2.1 fk).2.2.2 = false ∧ parseFieldDescriptor (r.2.1 fk).2.2.1 = some ty ∧ Cond.fieldLink own idx r.1 (r.2.1 fk).2.1 (r.2.1 fk).2.2.1 ∈ uw_W
/-- .. of a final field, in its class's constructor -/
def u_lkQ (own : String) (idx ci fk : Nat) (ty : FieldType) : Prop := ∃ r : vw_C, u_cls[ci]? = some r ∧ fk < r.2.2 ∧ (r.2.1 fk).1 = r.1 ∧ r.1 = own ∧ (r.2.1 fk).2.2.2 = true ∧ parseFieldDescriptor (r.2.1 fk).2.2.1 = some ty ∧ Cond.fieldLink own idx r.1 (r.2.1 fk).2.1 (r.2.1 fk).2.2.1 ∈ uw_W
section UH
variable {M : uM} {pc np tg : Nat} {l l' st : List Value} {h : uHp} {k n : Nat} {Q : uPs}
theorem us_getf {idx a : Nat} {fs : List Value} {v : Value} {ty : FieldType} (ci fk : Nat) (hd : uD M.cc pc (.getfield idx) 3 np) (hl : u_lkF M.y.cls idx ci fk ty) (hH : h.2 a = some (.inl (ci, fs))) (hv : fs[fk]? = some v) (K : uW M np l (v :: st) h k n Q) : uW M pc l (.ref a :: st) h k n Q := by
  intro G B p la e R s m args below meth c Qf C F H locs ls hR hS hL
  obtain ⟨hd, rfl⟩ := hd
  obtain ⟨r, hr, hk, hdec, -, hw⟩ := hl
  have KK := K G B p la e R s m args below meth c Qf C F H locs ls hR hS hL
  obtain ⟨hx, hb, -, -, -, hown, -, hts, hK, -, -, -⟩ := C
  obtain ⟨hin, hnm, hty, -⟩ := (uc_at hr).1
  rw [← (uc_at hr).2.1] at hin hnm hty
  have hat : ∃ r' : vw_C, u_cls[ci]? = some r' ∧ fs.length = r'.2.2 ∧ t_OB a (G.1 ci) r'.2.2 (G.2.1 ci) H (vp_V fs) := (hR.2 a _ hH).2
  obtain ⟨r', hr', -, cell, q1, q2, q3, q4⟩ := hat
  obtain rfl : r' = r := Option.some.inj (hr'.symm.trans hr)
  obtain ⟨hSl, hfc, kC, hkC, hkind⟩ := hK.1 ci _ hr
  obtain ⟨cf, kf, fi, f, hi, hsl⟩ := hSl fk hk
  have hinW : ∀ w ∈ u_ws r'.1 r'.2.1 r'.2.2, w ∈ uw_W := fun w hw => by
    obtain ⟨j, hj, rfl⟩ := List.mem_map.mp hw
    exact hin j (List.mem_range.mp hj)
  have hstat := (u_facts hfc hkC (u_lays hts hinW hk) hi).1
  have hvv : cell.slots[f.slot]? = some v := by
    rw [hsl, q4 fk hk]
    simp [vp_V, hv]
  rcases hw with hw | ⟨host, hw⟩
  · exact W.getf hx hb hown (hts _ hw) (by rw [← hdec]; exact hi) hstat q1 (by rw [q3]; exact fun h => by cases h) hvv rfl rfl hd KK
  · exact va_Wgetf hx hb hown ((hK.2.2.1 _ hw).use rfl) (by rw [← hdec]; exact hi) hstat q1 (by rw [q3]; exact fun h => by cases h) hvv rfl rfl hd KK
theorem u_apart' {r : vw_C} {G : uG} {s : State} {args : Array Value} {ci : Nat} (hr : u_cls[ci]? = some r) (hts : ∀ w ∈ uw_W, w.before args s = true) (hK : u_KK G s) : ∀ x y, x < r.2.2 → y < r.2.2 → x ≠ y → (G.2.1 ci) x ≠ (G.2.1 ci) y := by
  obtain ⟨hin, hnm, hty, -⟩ := (uc_at hr).1
  rw [← (uc_at hr).2.1] at hin hnm
  intro x y hx hy hne
  obtain ⟨hS, -⟩ := hK.1 ci _ hr
  obtain ⟨_, _, _, fa, hia, ea⟩ := hS x hx
  obtain ⟨_, _, _, fb, hib, eb⟩ := hS y hy
  have hinW : ∀ w ∈ u_ws r.1 r.2.1 r.2.2, w ∈ uw_W := fun w hw => by
    obtain ⟨j, hj, rfl⟩ := List.mem_map.mp hw
    exact hin j (List.mem_range.mp hj)
  rw [← ea, ← eb]
  refine u_apart (u_lays hts hinW hx) (u_lays hts hinW hy) hia hib ?_
  have t1 := hty x hx
  have t2 := hty y hy
  rw [← (uc_at hr).2.1] at t1 t2
  rw [(State.fieldFound?_type hia t1).1, (State.fieldFound?_type hib t2).1]
  exact hnm x hx y hy hne
theorem us_putf {idx a : Nat} {fs : List Value} {v : Value} {ty : FieldType} (ci fk : Nat) (hd : uD M.cc pc (.putfield idx) 3 np) (hl : u_lkP M.y.cls idx ci fk ty) (hH : h.2 a = some (.inl (ci, fs))) (hn : narrow ty v = v) (hf : fits ty v = true) (K : uW M np l st (u_set h a (.inl (ci, fs.set fk v))) k n Q) : uW M pc l (v :: .ref a :: st) h k n Q := by
  intro G B p la e R s m args below meth c Qf C F H locs ls hR hS hL
  obtain ⟨hd, rfl⟩ := hd
  obtain ⟨r, hr, hk, hdec, hfin, hpd, hw⟩ := hl
  have C0 := C
  obtain ⟨hx, hb, -, -, -, hown, -, hts, hK, -, -, -⟩ := C
  have hap := u_apart' hr hts hK
  obtain ⟨hin, hnm, hty, -⟩ := (uc_at hr).1
  rw [← (uc_at hr).2.1] at hin hnm hty
  have hat : ∃ r' : vw_C, u_cls[ci]? = some r' ∧ fs.length = r'.2.2 ∧ t_OB a (G.1 ci) r'.2.2 (G.2.1 ci) H (vp_V fs) := (hR.2 a _ hH).2
  obtain ⟨r', hr', hlen, cell, q1, q2, q3, q4⟩ := hat
  obtain rfl : r' = r := Option.some.inj (hr'.symm.trans hr)
  obtain ⟨hSl, hfc, kC, hkC, hkind⟩ := hK.1 ci _ hr
  obtain ⟨cf, kf, fi, f, hi, hsl⟩ := hSl fk hk
  have hinW : ∀ w ∈ u_ws r'.1 r'.2.1 r'.2.2, w ∈ uw_W := fun w hw => by
    obtain ⟨j, hj, rfl⟩ := List.mem_map.mp hw
    exact hin j (List.mem_range.mp hj)
  have hstat := (u_facts hfc hkC (u_lays hts hinW hk) hi).1
  have hlay := hts _ (hinW _ (u_in_lay hk))
  unfold u_lay at hlay
  rw [if_neg (by rw [hfin]; decide)] at hlay
  have h6 := u_store hfc hkC hkind hlay hi hpd hn hf
  refine W.putK hx hb (f := f) ⟨hown, hts _ hw, ⟨_, _, _, by rw [← hdec]; exact hi⟩, hstat⟩ (by rw [q2]; exact h6) q1 q3 (by rw [hsl]; exact k2_hasslot (q4 fk hk)) rfl rfl hd fun H' e1 e2 e3 => ?_
  rw [hsl] at e1 ⊢
  refine K G B p la e R s m args below meth c Qf C0 F H' _ ls (hR.put hH ⟨_, hr, by rw [List.length_set]; exact hlen, t_OB.to (V := updV (vp_V fs) fk v) ⟨_, e1, q2, q3, t_set q4 hap hk v⟩ (fun j _ => vp_updV_set (by rw [hlen]; exact hk) v j)⟩ e2 e3) (hS.put e2 e3 (hR.2 a _ hH).1) hL
theorem us_putF {idx a : Nat} {fs : List Value} {v : Value} {ty : FieldType} (ci fk : Nat) (hd : uD M.cc pc (.putfield idx) 3 np) (hl : u_lkQ M.y.cls idx ci fk ty) (hin2 : M.y.name = "<init>") (hH : h.2 a = some (.inl (ci, fs))) (hn : narrow ty v = v) (hf : fits ty v = true) (K : uW M np l st (u_set h a (.inl (ci, fs.set fk v))) k n Q) : uW M pc l (v :: .ref a :: st) h k n Q := by
  intro G B p la e R s m args below meth c Qf C F H locs ls hR hS hL
  obtain ⟨hd, rfl⟩ := hd
  obtain ⟨r, hr, hk, hdec, hro, hfin, hpd, hw⟩ := hl
  have C0 := C
  obtain ⟨hx, hb, -, -, -, hown, hname, hts, hK, -, -, -⟩ := C
  have hap := u_apart' hr hts hK
  obtain ⟨hin, hnm, hty, -⟩ := (uc_at hr).1
  rw [← (uc_at hr).2.1] at hin hnm hty
  have hat : ∃ r' : vw_C, u_cls[ci]? = some r' ∧ fs.length = r'.2.2 ∧ t_OB a (G.1 ci) r'.2.2 (G.2.1 ci) H (vp_V fs) := (hR.2 a _ hH).2
  obtain ⟨r', hr', hlen, cell, q1, q2, q3, q4⟩ := hat
  obtain rfl : r' = r := Option.some.inj (hr'.symm.trans hr)
  obtain ⟨hSl, hfc, kC, hkC, hkind⟩ := hK.1 ci _ hr
  obtain ⟨cf, kf, fi, f, hi, hsl⟩ := hSl fk hk
  have hinW : ∀ w ∈ u_ws r'.1 r'.2.1 r'.2.2, w ∈ uw_W := fun w hw => by
    obtain ⟨j, hj, rfl⟩ := List.mem_map.mp hw
    exact hin j (List.mem_range.mp hj)
  have hstat := (u_facts hfc hkC (u_lays hts hinW hk) hi).1
  have hlay := hts _ (hinW _ (u_in_lay hk))
  unfold u_lay at hlay
  rw [if_pos hfin] at hlay
  have h6 := u_fits hfc hkC hkind (u_lays hts hinW hk) hi hpd hn hf
  have hi' := hi
  rw [hdec] at hi'
  have hcf : m.cls = cf := by
    rw [hdec] at hlay
    rw [hro] at hlay hi'
    exact laid_decl hown hlay hi'
  refine W.putFinK hx hb hown (hts _ hw) hi' hstat hcf (hname.trans hin2) (by rw [q2]; exact h6) q1 q3 (by rw [hsl]; exact k2_hasslot (q4 fk hk)) rfl rfl hd fun H' e1 e2 e3 => ?_
  rw [hsl] at e1 ⊢
  refine K G B p la e R s m args below meth c Qf C0 F H' _ ls (hR.put hH ⟨_, hr, by rw [List.length_set]; exact hlen, t_OB.to (V := updV (vp_V fs) fk v) ⟨_, e1, q2, q3, t_set q4 hap hk v⟩ (fun j _ => vp_updV_set (by rw [hlen]; exact hk) v j)⟩ e2 e3) (hS.put e2 e3 (hR.2 a _ hH).1) hL
end UH
end
section
/-! the abstract machine's rows for arrays and for what is made -/
section UA
variable {M : uM} {pc np tg : Nat} {l l' st : List Value} {h : uHp} {k n : Nat} {Q : uPs}
theorem u_ix {i : Int} {j nn : Nat} (hj : i = (j : Int)) (hlt : j < nn) (hN : nn < 2147483648) : (Int32.ofInt i).toNatClampNeg = j ∧ ¬ (Int32.ofInt i < 0 ∨ nn ≤ (Int32.ofInt i).toNatClampNeg) := by
  subst hj
  have h1 : (Int32.ofInt (j : Int)).toNatClampNeg = j := by rw [u_clamp (by omega) (by omega)]; simp
  refine ⟨h1, ?_⟩
  rw [h1, Int32.lt_iff_toInt_lt, u_rng (by omega) (by omega), Int32.toInt_zero]
  omega
theorem us_alen {a nn kd : Nat} {f : Nat → Value} (hd : uD M.cc pc .arraylength 1 np) (hH : h.2 a = some (.inr (kd, nn, f))) (K : uW M np l (ui (nn : Int) :: st) h k n Q) : uW M pc l (.ref a :: st) h k n Q := by
  intro G B p la e R s m args below meth c Qf C F H locs ls hR hS hL
  obtain ⟨hd, rfl⟩ := hd
  obtain ⟨hkd, hc⟩ : u_at G a (.inr (kd, nn, f)) H := (hR.2 a _ hH).2
  have hA := (C.2.2.2.2.2.2.2.2.1.2.1 kd hkd).1 nn f
  exact W.alen C.1 C.2.1 hc hA (by rw [arrV_size]; rfl) rfl rfl hd (K G B p la e R s m args below meth c Qf C F H locs ls hR hS hL)
theorem us_iald {a nn : Nat} {f : Nat → Value} {i : Int} {v : Value} (j : Nat) (hd : uD M.cc pc .iaload 1 np) (hH : h.2 a = some (.inr (0, nn, f))) (hj : i = (j : Int)) (hlt : j < nn) (hN : nn < 2147483648) (hv : f j = v) (K : uW M np l (v :: st) h k n Q) : uW M pc l (ui i :: .ref a :: st) h k n Q := by
  intro G B p la e R s m args below meth c Qf C F H locs ls hR hS hL
  obtain ⟨hd, rfl⟩ := hd
  obtain ⟨hkd, hc⟩ : u_at G a (.inr (0, nn, f)) H := (hR.2 a _ hH).2
  have hA := (C.2.2.2.2.2.2.2.2.1.2.1 0 hkd).1 nn f
  obtain ⟨e1, e2⟩ := u_ix hj hlt hN
  refine W.iald (v := v) C.1 C.2.1 hc hA (fun q => by cases q) (by rw [arrV_size]; exact e2) (by rw [e1, arrV_read _ _ hlt]; exact congrArg some hv) rfl rfl hd (K G B p la e R s m args below meth c Qf C F H locs ls hR hS hL)
theorem us_lald {a nn : Nat} {f : Nat → Value} {i : Int} {v : Value} (j : Nat) (hd : uD M.cc pc .laload 1 np) (hH : h.2 a = some (.inr (1, nn, f))) (hj : i = (j : Int)) (hlt : j < nn) (hN : nn < 2147483648) (hv : f j = v) (K : uW M np l (v :: st) h k n Q) : uW M pc l (ui i :: .ref a :: st) h k n Q := by
  intro G B p la e R s m args below meth c Qf C F H locs ls hR hS hL
  obtain ⟨hd, rfl⟩ := hd
  obtain ⟨hkd, hc⟩ : u_at G a (.inr (1, nn, f)) H := (hR.2 a _ hH).2
  have hA := (C.2.2.2.2.2.2.2.2.1.2.1 1 hkd).1 nn f
  obtain ⟨e1, e2⟩ := u_ix hj hlt hN
  refine W.lald (v := v) C.1 C.2.1 hc hA (fun q => by cases q) (by rw [arrV_size]; exact e2) (by rw [e1, arrV_read _ _ hlt]; exact congrArg some hv) rfl rfl hd (K G B p la e R s m args below meth c Qf C F H locs ls hR hS hL)
theorem us_cald {a nn : Nat} {f : Nat → Value} {i : Int} {v : Value} (j : Nat) (hd : uD M.cc pc .caload 1 np) (hH : h.2 a = some (.inr (2, nn, f))) (hj : i = (j : Int)) (hlt : j < nn) (hN : nn < 2147483648) (hv : f j = v) (K : uW M np l (v :: st) h k n Q) : uW M pc l (ui i :: .ref a :: st) h k n Q := by
  intro G B p la e R s m args below meth c Qf C F H locs ls hR hS hL
  obtain ⟨hd, rfl⟩ := hd
  obtain ⟨hkd, hc⟩ : u_at G a (.inr (2, nn, f)) H := (hR.2 a _ hH).2
  have hA := (C.2.2.2.2.2.2.2.2.1.2.1 2 hkd).1 nn f
  obtain ⟨e1, e2⟩ := u_ix hj hlt hN
  refine W.cald (v := v) C.1 C.2.1 hc hA (fun q => by cases q) (by rw [arrV_size]; exact e2) (by rw [e1, arrV_read _ _ hlt]; exact congrArg some hv) rfl rfl hd (K G B p la e R s m args below meth c Qf C F H locs ls hR hS hL)
theorem us_aald {a nn kd : Nat} {f : Nat → Value} {i : Int} {v : Value} (j : Nat) (hd : uD M.cc pc .aaload 1 np) (hH : h.2 a = some (.inr (kd, nn, f))) (hk3 : (u_kt kd).isReference = true) (hj : i = (j : Int)) (hlt : j < nn) (hN : nn < 2147483648) (hv : f j = v) (K : uW M np l (v :: st) h k n Q) : uW M pc l (ui i :: .ref a :: st) h k n Q := by
  intro G B p la e R s m args below meth c Qf C F H locs ls hR hS hL
  obtain ⟨hd, rfl⟩ := hd
  obtain ⟨hkd, hc⟩ : u_at G a (.inr (kd, nn, f)) H := (hR.2 a _ hH).2
  have hA := (C.2.2.2.2.2.2.2.2.1.2.1 kd hkd).1 nn f
  obtain ⟨e1, e2⟩ := u_ix hj hlt hN
  refine W.aald (v := v) C.1 C.2.1 hc hA hk3 (fun q => by cases q) (by rw [arrV_size]; exact e2) (by rw [e1, arrV_read _ _ hlt]; exact congrArg some hv) rfl rfl hd (K G B p la e R s m args below meth c Qf C F H locs ls hR hS hL)
theorem us_iast {a nn : Nat} {f : Nat → Value} {i : Int} {x : Int32} (j : Nat) (hd : uD M.cc pc .iastore 1 np) (hH : h.2 a = some (.inr (0, nn, f))) (hj : i = (j : Int)) (hlt : j < nn) (hN : nn < 2147483648) (K : uW M np l st (u_set h a (.inr (0, nn, updV f j (.int x)))) k n Q) : uW M pc l (.int x :: ui i :: .ref a :: st) h k n Q := by
  intro G B p la e R s m args below meth c Qf C F H locs ls hR hS hL
  obtain ⟨hd, rfl⟩ := hd
  obtain ⟨hkd, hc⟩ : u_at G a (.inr (0, nn, f)) H := (hR.2 a _ hH).2
  have hA := (C.2.2.2.2.2.2.2.2.1.2.1 0 hkd).1 nn f
  obtain ⟨e1, e2⟩ := u_ix hj hlt hN
  refine W.iast C.1 C.2.1 hc hA (fun q => by cases q) (by rw [arrV_size]; exact e2) rfl rfl hd fun H' f1 f2 f3 => ?_
  rw [e1, arrV_store] at f1
  exact K G B p la e R s m args below meth c Qf C F H' _ ls (hR.put hH ⟨hkd, f1⟩ f2 f3) (hS.put f2 f3 (hR.2 a _ hH).1) hL
theorem us_last {a nn : Nat} {f : Nat → Value} {i : Int} {x : Int64} (j : Nat) (hd : uD M.cc pc .lastore 1 np) (hH : h.2 a = some (.inr (1, nn, f))) (hj : i = (j : Int)) (hlt : j < nn) (hN : nn < 2147483648) (K : uW M np l st (u_set h a (.inr (1, nn, updV f j (.long x)))) k n Q) : uW M pc l (.long x :: ui i :: .ref a :: st) h k n Q := by
  intro G B p la e R s m args below meth c Qf C F H locs ls hR hS hL
  obtain ⟨hd, rfl⟩ := hd
  obtain ⟨hkd, hc⟩ : u_at G a (.inr (1, nn, f)) H := (hR.2 a _ hH).2
  have hA := (C.2.2.2.2.2.2.2.2.1.2.1 1 hkd).1 nn f
  obtain ⟨e1, e2⟩ := u_ix hj hlt hN
  refine W.last C.1 C.2.1 hc hA (fun q => by cases q) (by rw [arrV_size]; exact e2) rfl rfl hd fun H' f1 f2 f3 => ?_
  rw [e1, arrV_store] at f1
  exact K G B p la e R s m args below meth c Qf C F H' _ ls (hR.put hH ⟨hkd, f1⟩ f2 f3) (hS.put f2 f3 (hR.2 a _ hH).1) hL
theorem us_cast {a nn : Nat} {f : Nat → Value} {i : Int} {x : Int32} (j : Nat) (hd : uD M.cc pc .castore 1 np) (hH : h.2 a = some (.inr (2, nn, f))) (hj : i = (j : Int)) (hlt : j < nn) (hN : nn < 2147483648) (hx : narrow .char (.int x) = .int x) (K : uW M np l st (u_set h a (.inr (2, nn, updV f j (.int x)))) k n Q) : uW M pc l (.int x :: ui i :: .ref a :: st) h k n Q := by
  intro G B p la e R s m args below meth c Qf C F H locs ls hR hS hL
  obtain ⟨hd, rfl⟩ := hd
  obtain ⟨hkd, hc⟩ : u_at G a (.inr (2, nn, f)) H := (hR.2 a _ hH).2
  have hA := (C.2.2.2.2.2.2.2.2.1.2.1 2 hkd).1 nn f
  obtain ⟨e1, e2⟩ := u_ix hj hlt hN
  refine W.cast C.1 C.2.1 hc hA (fun q => by cases q) (by rw [arrV_size]; exact e2) rfl rfl hd fun H' f1 f2 f3 => ?_
  rw [hx, e1, arrV_store] at f1
  exact K G B p la e R s m args below meth c Qf C F H' _ ls (hR.put hH ⟨hkd, f1⟩ f2 f3) (hS.put f2 f3 (hR.2 a _ hH).1) hL
theorem us_aast {a b nn kd ci : Nat} {f : Nat → Value} {i : Int} {fs : List Value} {r : vw_C} (j : Nat) (hd : uD M.cc pc .aastore 1 np) (hH : h.2 a = some (.inr (kd, nn, f))) (hb2 : h.2 b = some (.inl (ci, fs))) (hr : u_cls[ci]? = some r) (hk3 : u_kt kd = .object r.1) (hj : i = (j : Int)) (hlt : j < nn) (hN : nn < 2147483648) (K : uW M np l st (u_set h a (.inr (kd, nn, updV f j (.ref b)))) k n Q) : uW M pc l (.ref b :: ui i :: .ref a :: st) h k n Q := by
  intro G B p la e R s m args below meth c Qf C F H locs ls hR hS hL
  obtain ⟨hd, rfl⟩ := hd
  obtain ⟨hkd, hc⟩ : u_at G a (.inr (kd, nn, f)) H := (hR.2 a _ hH).2
  have hat : ∃ r' : vw_C, u_cls[ci]? = some r' ∧ fs.length = r'.2.2 ∧ t_OB b (G.1 ci) r'.2.2 (G.2.1 ci) H (vp_V fs) := (hR.2 b _ hb2).2
  obtain ⟨r', hr', -, cell, g1, g2, g3, -⟩ := hat
  obtain rfl : r' = r := Option.some.inj (hr'.symm.trans hr)
  have hKK := C.2.2.2.2.2.2.2.2.1
  have hcls := (hKK.1 ci _ hr).2
  have hra := (hKK.2.1 kd hkd).2
  rw [hk3] at hra
  obtain ⟨kA, comp, k1, k2, k3, -⟩ := hra
  have hcomp : comp = G.1 ci := Option.some.inj (k3.symm.trans hcls.1)
  subst hcomp
  obtain ⟨kC, hkC, -⟩ := id hcls.2
  obtain ⟨e1, e2⟩ := u_ix hj hlt hN
  refine W.aast C.1 C.2.1 hc (fun q h => by cases h) (fun h => by cases h) k1 k2 rfl hkC ⟨fun q => e2 (Or.inl q), by rw [arrV_size, e1]; exact hlt⟩ g1 (fun q h => by rw [g3] at h; cases h) (by rw [g2]; exact hkC) (by rw [g2]; exact va_assign hcls) rfl rfl hd fun H' f1 f2 f3 => ?_
  rw [e1, arrV_store] at f1
  exact K G B p la e R s m args below meth c Qf C F H' _ ls (hR.put hH ⟨hkd, f1⟩ f2 f3) (hS.put f2 f3 (hR.2 a _ hH).1) hL
theorem u_growS {B : Nat} {H0 H H1 : Heap} {locs : List Loc} (hS : va_S (fun q => B ≤ q) H0 H locs) (z : H1.size = H.size + 1) (o : ∀ q : Nat, q < H.size → H1[q]? = H[q]?) : va_S (fun q => B ≤ q) H0 H1 locs :=
  ⟨Nat.le_trans hS.1 (by omega), fun x h1 h2 => (o x (Nat.lt_of_lt_of_le h1 hS.1)).trans (hS.2.1 x h1 h2), hS.2.2⟩
theorem us_newa {nn : Nat} {i : Int} {aty : ArrayType} (kd : Nat) (hd : uD M.cc pc (.newarray aty) 2 np) (hkd : kd < 3) (hty : newarray.typeOf aty = u_kt kd) (hj : i = (nn : Int)) (hN : nn * 8 ≤ 536870912) (hcell : k + 1 ≤ M.mc) (hslot : n + nn ≤ M.ms) (hw : Cond.arrayClass (newarray.typeOf aty) ∈ uw_W) (K : uW M np l (.ref h.1 :: st) (u_push h (.inr (kd, nn, fun _ => defaultValue (u_kt kd)))) (k + 1) (n + nn) Q) : uW M pc l (ui i :: st) h k n Q := by
  intro G B p la e R s m args below meth c Qf C F H locs ls hR hS hL
  obtain ⟨hd, rfl⟩ := hd
  obtain ⟨e1, e2⟩ := u_ix (nn := nn + 1) hj (Nat.lt_succ_self _) (by omega)
  have hRm := C.2.2.2.2.2.2.2.2.2.1
  have hra := (C.2.2.2.2.2.2.2.2.1.2.1 kd (by omega)).2
  refine va_newaK C.1 C.2.1 (C.2.2.2.2.2.2.2.1 _ hw) rfl hd rfl (fun q => e2 (Or.inl q)) e1 ?_ (by rw [hRm]; exact hcell) (by rw [hRm]; exact hslot) hR.1.symm fun H' cA f1 f2 f3 hA hN' => ?_
  · have : componentBytes (newarray.typeOf aty) ≤ 8 := by cases aty <;> decide
    exact Nat.le_trans (Nat.mul_le_mul_left nn this) hN
  · have hcA : cA = G.2.2 kd := by
      rw [hty] at hN'
      have : s.vm.findClass ("[" ++ (u_kt kd).toString) = some (G.2.2 kd) := by
        match kd, hkd, hra with
        | 0, _, hra => exact hra
        | 1, _, hra => exact hra
        | 2, _, hra => exact hra
      exact Option.some.inj (hN'.symm.trans this)
    subst hcA
    rw [hty] at f1
    rw [hR.1] at f1 f2 f3
    exact K G B p la e R s m args below meth c Qf C F H' _ ls (hR.push (Nat.le_trans C.2.2.2.2.2.2.2.2.2.2.1 hS.1) ⟨by omega, f1⟩ f2 f3) (u_growS hS f2 f3) hL
theorem us_anew {nn idx : Nat} {i : Int} {Cn : String} (kd : Nat) (hd : uD M.cc pc (.anewarray idx) 3 np) (hkd : kd < 7) (hty : u_kt kd = .object Cn) (hov : Cn ∈ u_over) (hj : i = (nn : Int)) (hN : nn * 8 ≤ 536870912) (hcell : k + 1 ≤ M.mc) (hslot : n + nn ≤ M.ms) (hw : Cond.classLink M.y.cls idx Cn ∈ uw_W) (K : uW M np l (.ref h.1 :: st) (u_push h (.inr (kd, nn, fun _ => .null))) (k + 1) (n + nn) Q) : uW M pc l (ui i :: st) h k n Q := by
  intro G B p la e R s m args below meth c Qf C F H locs ls hR hS hL
  obtain ⟨hd, rfl⟩ := hd
  obtain ⟨e1, e2⟩ := u_ix (nn := nn + 1) hj (Nat.lt_succ_self _) (by omega)
  have hRm := C.2.2.2.2.2.2.2.2.2.1
  have hKK := C.2.2.2.2.2.2.2.2.1
  have hra := (hKK.2.1 kd hkd).2
  rw [hty] at hra
  obtain ⟨kA0, comp0, k1, k2, k3, k4⟩ := hra
  refine W.anew C.1 C.2.1 C.2.2.2.2.2.1 (C.2.2.2.2.2.2.2.1 _ hw) (va_AO.use (hKK.2.2.2.2 _ hov)) rfl hd rfl (fun q => e2 (Or.inl q)) (by rw [e1]; omega) (by rw [hRm]; exact hcell) (by rw [e1, hRm]; exact hslot) fun cA kA comp f1 f2 f3 f4 => ?_
  rw [e1]
  generalize hH1 : H.push ({ cls := cA, slots := Array.replicate nn .null, vm := .none } : Cell) = H1
  have z1 : H1.size = H.size + 1 := by rw [← hH1, Array.size_push]
  have g1 : H1[H.size]? = some (arrV cA nn (fun _ => .null)) := by rw [← hH1, Array.getElem?_push_size, ← arrV_new]
  have o1 : ∀ q : Nat, q < H.size → H1[q]? = H[q]? := fun q hq => by rw [← hH1, Array.getElem?_push, if_neg (Nat.ne_of_lt hq)]
  have hcA : cA = G.2.2 kd := Option.some.inj (f1.symm.trans k4)
  subst hcA
  rw [← hR.1]
  exact K G B p la e R s m args below meth c Qf C F H1 _ ls (hR.push (Nat.le_trans C.2.2.2.2.2.2.2.2.2.2.1 hS.1) ⟨hkd, g1⟩ z1 o1) (u_growS hS z1 o1) hL
theorem us_new {idx ci : Nat} {r : vw_C} {fs : List Value} (hd : uD M.cc pc (.new idx) 3 np) (hr : u_cls[ci]? = some r) (hw : Cond.classLink M.y.cls idx r.1 ∈ uw_W) (hfs : fs = (List.range r.2.2).map (fun j => defaultValue (uf_ty (u_fl ci) j))) (hcell : k + 1 ≤ M.mc) (hslot : n + r.2.2 ≤ M.ms) (K : uW M np l (.ref h.1 :: st) (u_push h (.inl (ci, fs))) (k + 1) (n + r.2.2) Q) : uW M pc l st h k n Q := by
  intro G B p la e R s m args below meth c Qf C F H locs ls hR hS hL
  obtain ⟨hd, rfl⟩ := hd
  have C0 := C
  obtain ⟨hx, hb, -, -, -, hown, -, hts, hK, hRm, hB, -⟩ := C
  obtain ⟨hin, hnm, hty, hins, hini⟩ := (uc_at hr).1
  have hKn := hK.1 ci _ hr
  have hinW : ∀ w ∈ u_ws r.1 r.2.1 r.2.2, w ∈ uw_W := fun w hw => by
    obtain ⟨j, hj, rfl⟩ := List.mem_map.mp hw
    rw [(uc_at hr).2.1]
    exact hin j (List.mem_range.mp hj)
  refine W.newcK hx hb hown (hts _ hw) (hts _ hins) (hts _ hini) rfl hd (by rw [hRm]; exact hcell) (by rw [hRm]; exact hslot) hKn.2.1 hR.1.symm fun H1 kC hkC e1 z1 o1 => ?_
  rw [hR.1] at e1 z1 o1
  have hlen : fs.length = r.2.2 := by rw [hfs, List.length_map, List.length_range]
  refine K G B p la e R s m args below meth c Qf C0 F H1 _ ls (hR.push (Nat.le_trans hB hS.1) ⟨r, hr, hlen, (u_born (uf_ty (u_fl ci)) hts hinW hKn hkC e1 (fun j hj => by rw [(uc_at hr).2.1]; exact hty j hj)).to (fun j hj => ?_)⟩ z1 o1) (u_growS hS z1 o1) hL
  show _ = vp_V fs j
  unfold vp_V
  rw [List.getD_eq_getElem?_getD, hfs, List.getElem?_map, List.getElem?_range hj]
  rfl
end UA
end
section
/-! calls and returns of the abstract machine -/
abbrev u_ws' (M : uM) : List Cond := Cond.code M.y M.cc M.nL M.ret :: uw_W
def u_Pc (G : uG) (B : Nat) (as : List Value) (h : uHp) : Array Value → State → Prop := fun v U => v = as.toArray ∧ u_Rel G B h U.heap ∧ u_KK G U ∧ B ≤ U.heap.size
def u_Qc (G : uG) (B : Nat) (Q : uPs) : Array Value → State → Outcome → State → Prop := fun _ st o t => (∃ (v : Option Value) (h' : uHp), o = .returned v ∧ Q v h' ∧ u_Rel G B h' t.heap) ∧ va_F (fun q => B ≤ q) st t
theorem u_met {G : uG} {B : Nat} {la : Launch} {M : uM} {as : List Value} {h : uHp} {Q : uPs} (hy : plainName M.y.cls = true) (hex : M.ex = none) (hd9 : M.d < 9) (hlen : (lg_sl as).length ≤ M.nL) (K : uW M 0 (u_ent M.nL as) [] h 0 0 Q) : Met la M.y (u_ws' M) (u_rm M) (u_Pc G B as h) (u_Qc G B Q) M.mc M.ms (fun q => B ≤ q) := by
  refine Met.ofW (cc := M.cc) (maxL := M.nL) (ret := M.ret) hy rfl ?_
  intro p e s m args below meth c s₁ X hml hv
  obtain ⟨rfl, hR, hK, hB⟩ := hv
  have hts := atoms_spec (ws := u_ws' M) X.pre
  have hS : va_S (fun q : Nat => B ≤ q) s.heap s.heap [] := va_S.rf
  rw [lg_entry_eq]
  refine K G B p la e (u_rm M) s m as.toArray below meth c _ ⟨X.exec, X.bytes, X.returns, X.notSynchronized, hml, findClass_of_methodNamed X.named, (name_of_methodNamed X.named X.method).1, fun w hw => hts w (List.mem_cons_of_mem _ hw), hK, rfl, hB, fun q hq => by rw [hex] at hq; cases hq⟩ ?_ s.heap [] _ hR hS (u_LR.entry as hlen)
  intro H locs ls h' pc k n v hR' hS' hk hn hQ hret
  refine W.widen hk hn ?_
  have hq : ∀ t : State, t.heap = H → s.WarmedH t.vm → u_Qc G B Q as.toArray s (.returned v) t := fun t ht _ => ⟨⟨v, h', rfl, hQ, by rw [ht]; exact hR'⟩, hS'.F ht⟩
  have hlk := X.notSynchronized
  match v, hret, hq with
  | none, ⟨h1, h2⟩, hq => exact W.vret X.exec X.bytes (X.returns.trans h2) hq hS'.2.2 h1 hlk
  | some (.int x), ⟨h1, ty, h2, h3⟩, hq => exact W.zret X.exec X.bytes (X.returns.trans h2) h3 hq hS'.2.2 h1 hlk
  | some (.long x), ⟨h1, h2⟩, hq => exact W.lret X.exec X.bytes (X.returns.trans h2) hq hS'.2.2 h1 hlk
  | some (.ref a), ⟨h1, C, h2⟩, hq => exact W.aret X.exec X.bytes (X.returns.trans h2) (Or.inl ⟨C, rfl⟩) (Or.inr ⟨a, rfl⟩) hq hS'.2.2 h1 hlk
/-- what a method's own words are, with its parameters -/
def u_MO (M : uM) (np : Nat) : Prop := plainName M.y.cls = true ∧ M.ex = none ∧ M.d < 9 ∧ M.nL ≤ 21 ∧ (M.y.cls ≠ "java/lang/invoke/MethodHandle" ∧ M.y.cls ≠ "java/lang/invoke/VarHandle") ∧ (parseMethodDescriptor M.y.desc).map (fun d => d.parameters.length) = some np ∧ Cond.code M.y M.cc M.nL M.ret ∈ uw_W ∧ Cond.initialized M.y.cls ∈ uw_W
theorem u_room {M M' : uM} (h : M'.d < M.d) (h9 : M'.d < 9) (hn : M'.nL ≤ 21) : (u_rm M').frames + 1 ≤ (u_rm M).frames ∧ 8 + (M'.nL + 11) + (u_rm M').locals ≤ (u_rm M).locals := by
  simp only [u_rm, u_loc]
  by_cases hm : M.d < 9
  · simp only [h9, hm, if_true]
    omega
  · simp only [h9, hm, if_true, if_false]
    omega
theorem u_goodIn {M' : uM} (hc : Cond.code M'.y M'.cc M'.nL M'.ret ∈ uw_W) : GoodIn uw_W (u_ws' M') := by
  intro w hw
  have hm : w ∈ uw_W := by
    rcases List.mem_cons.mp hw with rfl | hw
    · exact hc
    · exact hw
  exact ⟨hm, good_of_word (uw_good w hm)⟩
def u_ko (M : uM) (pc : Nat) (l st : List Value) (k n : Nat) (Q : uPs) : uPs := fun v h => match v with
  | none => uW M pc l st h k n Q
  | some x => uW M pc l (x :: st) h k n Q
theorem u_ko_1 {M : uM} {pc : Nat} {l st : List Value} {k n : Nat} {Q : uPs} {h : uHp} {x : Value} (K : uW M pc l (x :: st) h k n Q) : u_ko M pc l st k n Q (some x) h := K
theorem u_ko_0 {M : uM} {pc : Nat} {l st : List Value} {k n : Nat} {Q : uPs} {h : uHp} (K : uW M pc l st h k n Q) : u_ko M pc l st k n Q none h := K
theorem u_blind (G : uG) (B : Nat) (as : List Value) (h : uHp) : FrameBlind (u_Pc G B as h) := fun a U g mk q => ⟨q.1, q.2.1, q.2.2.1.same (u := U) (U := U.calling g mk a) rfl, q.2.2.2⟩
section UC
variable {M M' : uM} {pc np tg : Nat} {l l' st : List Value} {h : uHp} {k n : Nat} {Q : uPs}
/-- behind a run of a callee -/
theorem u_after {G : uG} {B : Nat} {p : Program} {la : Launch} {e : Env} {R : Room} {s : State} {m : MethodId} {args : Array Value} {below : List Frame} {meth : Method} {c : Code} {Qf : State → Prop} {H : Heap} {locs : List Loc} {ls : Array Slot} {st0 rest : List Value} {a : Array Value}
    (hr : va_Run p la e R s m args below meth c H locs k n M'.mc M'.ms (F0 m pc ls st0) rest (u_Qc G B (u_ko M (pc + 3) l rest (k + M'.mc) (n + M'.ms) Q) a) (fun q => B ≤ q)) (C : u_Ctx G B M p la e R s m args below meth c) (F : u_Fin G B M p la e R s m args below meth c Q Qf)
    (hS : va_S (fun q => B ≤ q) s.heap H locs) (hL : u_LR M.nL l ls) : W p la e R s m args below meth c H locs k n Qf (F0 m pc ls st0) := by
  intro T hT X
  obtain ⟨v, st₀, t, T', L, h0, X', hLf, e1, e2, ⟨⟨v', h', hv, hQ, hR'⟩, hz, hk⟩, st⟩ := hr T hT X
  cases hv
  rw [h0] at hz hk
  have hS' : va_S (fun q => B ≤ q) s.heap T'.heap (locs ++ L) := by
    refine ⟨Nat.le_trans hS.1 (by rw [e1]; exact hz), fun q h1 h2 => ?_, fun q hq => ?_⟩
    · rw [e1, hk q (Nat.lt_of_lt_of_le h1 hS.1) h2]
      exact hS.2.1 q h1 h2
    · rcases List.mem_append.mp hq with h | h
      · exact hS.2.2 q h
      · exact hLf q h
  have hW : W p la e R s m args below meth c T'.heap (locs ++ L) (k + M'.mc) (n + M'.ms) Qf (F0 m (pc + 3) ls (v.toList ++ rest)) := by
    cases v with
    | none => exact hQ G B p la e R s m args below meth c Qf C F T'.heap _ ls (by rw [e1]; exact hR') hS' hL
    | some x => exact hQ G B p la e R s m args below meth c Qf C F T'.heap _ ls (by rw [e1]; exact hR') hS' hL
  obtain ⟨t2, a1, b1⟩ := hW T' rfl X'
  exact ⟨t2, st t2 a1, b1⟩
theorem u_pre {G : uG} {B : Nat} {s : State} {as : List Value} {H : Heap} (hR : u_Rel G B h H) (hK : u_KK G s) (hB : B ≤ H.size) : ∀ U : State, U.heap = H → s.WarmedH U.vm → u_Pc G B as h as.toArray U := fun U hU hW => ⟨rfl, by rw [hU]; exact hR, hK.warm hW, by rw [hU]; exact hB⟩
/-- an instance method -/
theorem us_callV {idx b ci nargs : Nat} {fs As rest : List Value} {r : vw_C} (hd : uD M.cc pc (.invokevirtual idx) 3 np) (hst : st = As.reverse ++ .ref b :: rest) (hmo : u_MO M' nargs) (hna : As.length = nargs) (hdd : M'.d < M.d)
    (hlk : Cond.methodLink M.y.cls idx M'.y ∈ uw_W) (hin : Cond.instanceMethod M'.y ∈ uw_W) (hsel : Cond.selects M'.y.cls M'.y M'.y ∈ uw_W) (hH : h.2 b = some (.inl (ci, fs))) (hr : u_cls[ci]? = some r) (hrc : r.1 = M'.y.cls)
    (hcat : (rest.map fun v => v.category).sum ≤ 8) (hc : k + M'.mc ≤ M.mc) (hs : n + M'.ms ≤ M.ms) (hlen : (lg_sl (.ref b :: As)).length ≤ M'.nL) (he : u_ent M'.nL (.ref b :: As) = l') (K : uW M' 0 l' [] h 0 0 (u_ko M np l rest (k + M'.mc) (n + M'.ms) Q)) : uW M pc l st h k n Q := by
  intro G B p la e R s m args below meth c Qf C F H locs ls hR hS hL
  obtain ⟨hd, rfl⟩ := hd
  subst hst he
  obtain ⟨m1, m2, m3, m4, m5, m6, m7, m8⟩ := hmo
  have hM := u_met (G := G) (B := B) (la := la) (as := .ref b :: As) m1 m2 m3 hlen K
  have hts := C.2.2.2.2.2.2.2.1
  have hKK := C.2.2.2.2.2.2.2.2.1
  have hRm := C.2.2.2.2.2.2.2.2.2.1
  subst hRm
  have hG : GoodIn uw_W (wsV M.y.cls idx M'.y.cls M'.y (u_ws' M')) := by
    intro w hw
    have hw' : w ∈ ([.methodLink M.y.cls idx M'.y, .instanceMethod M'.y, .selects M'.y.cls M'.y M'.y, .initialized M'.y.cls] : List Cond) ++ u_ws' M' := hw
    rcases List.mem_append.mp hw' with hw' | hw'
    · have hm : w ∈ uw_W := by
        simp only [List.mem_cons, List.not_mem_nil, or_false] at hw'
        rcases hw' with rfl | rfl | rfl | rfl
        · exact hlk
        · exact hin
        · exact hsel
        · exact m8
      exact ⟨hm, good_of_word (uw_good w hm)⟩
    · exact u_goodIn m7 w hw'
  obtain ⟨r', hr', -, cell, g1, g2, g3, -⟩ : ∃ r' : vw_C, u_cls[ci]? = some r' ∧ fs.length = r'.2.2 ∧ t_OB b (G.1 ci) r'.2.2 (G.2.1 ci) H (vp_V fs) := (hR.2 b _ hH).2
  have hcl : s.vm.findClass M'.y.cls = some cell.cls := by rw [g2, ← hrc]; exact (hKK.1 ci _ hr).2.1
  refine u_after (M' := M') (va_runV (nL := M.nL) (own := M.y.cls) ⟨C.1, C.2.1, C.2.2.2.2.1, C.2.2.2.2.2.1, hts⟩ hM (cwV nargs hts hG rfl rfl rfl ⟨rfl, m5.1, m5.2, m6⟩ (u_room hdd m3 m4)) ⟨u_blind G B _ h, ⟨cell, g1, by rw [g3]; rfl, hcl⟩, u_pre hR hKK (Nat.le_trans C.2.2.2.2.2.2.2.2.2.2.1 hS.1)⟩ rfl hna hL.1 rfl (lv_room hcat) hd ⟨hc, hs⟩) C F hS hL
/-- a static method of the class itself -/
theorem us_callS {idx nargs : Nat} {As rest : List Value} (hd : uD M.cc pc (.invokestatic idx) 3 np) (hst : st = As.reverse ++ rest) (hmo : u_MO M' nargs) (hna : As.length = nargs) (hdd : M'.d < M.d)
    (hlk : Cond.methodLink M.y.cls idx M'.y ∈ uw_W ∨ ∃ host, (M.y.cls, idx, M'.y, host) ∈ u_nestM) (hin : Cond.static M'.y ∈ uw_W)
    (hcat : (rest.map fun v => v.category).sum ≤ 8) (hc : k + M'.mc ≤ M.mc) (hs : n + M'.ms ≤ M.ms) (hlen : (lg_sl As).length ≤ M'.nL) (he : u_ent M'.nL As = l') (K : uW M' 0 l' [] h 0 0 (u_ko M np l rest (k + M'.mc) (n + M'.ms) Q)) : uW M pc l st h k n Q := by
  intro G B p la e R s m args below meth c Qf C F H locs ls hR hS hL
  obtain ⟨hd, rfl⟩ := hd
  subst hst he
  obtain ⟨m1, m2, m3, m4, m5, m6, m7, m8⟩ := hmo
  have hM := u_met (G := G) (B := B) (la := la) (as := As) m1 m2 m3 hlen K
  have hts := C.2.2.2.2.2.2.2.1
  have hKK := C.2.2.2.2.2.2.2.2.1
  have hRm := C.2.2.2.2.2.2.2.2.2.1
  subst hRm
  have hp : PreS s H (u_Pc G B As h) As := ⟨u_blind G B _ h, u_pre hR hKK (Nat.le_trans C.2.2.2.2.2.2.2.2.2.2.1 hS.1)⟩
  rcases hlk with hlk | ⟨host, hlk⟩
  · refine u_after (M' := M') (va_runS (nL := M.nL) (own := M.y.cls) ⟨C.1, C.2.1, C.2.2.2.2.1, C.2.2.2.2.2.1, hts⟩ hM ⟨callB_of nargs hts (u_goodIn m7) rfl rfl rfl (hts _ m8) (hts _ hlk) ⟨m5.1, m5.2, m6⟩ (u_room hdd m3 m4), hts _ hin⟩ hp rfl hna hL.1 rfl (lv_room hcat) hd ⟨hc, hs⟩) C F hS hL
  · refine u_after (M' := M') (va_runSN (nL := M.nL) (own := M.y.cls) (host := host) ⟨C.1, C.2.1, C.2.2.2.2.1, C.2.2.2.2.2.1, hts⟩ hM ⟨va_cnB nargs hts (u_goodIn m7) rfl rfl rfl (hKK.2.2.2.1 _ hlk) (hts _ m8) ⟨m5.1, m5.2, m6⟩ (u_room hdd m3 m4), hts _ hin, trivial⟩ hp rfl hna hL.1 rfl (lv_room hcat) hd ⟨hc, hs⟩) C F hS hL
/-- a constructor -/
theorem us_callI {idx b nargs : Nat} {As rest : List Value} (hd : uD M.cc pc (.invokespecial idx) 3 np) (hst : st = As.reverse ++ .ref b :: rest) (hmo : u_MO M' nargs) (hna : As.length = nargs) (hdd : M'.d < M.d) (hret : M'.ret = none) (hnm : M'.y.name = "<init>")
    (hlk : Cond.methodLink M.y.cls idx M'.y ∈ uw_W ∨ ∃ host, (M.y.cls, idx, M'.y, host) ∈ u_nestM) (hin : Cond.instanceMethod M'.y ∈ uw_W)
    (hcat : (rest.map fun v => v.category).sum ≤ 8) (hc : k + M'.mc ≤ M.mc) (hs : n + M'.ms ≤ M.ms) (hlen : (lg_sl (.ref b :: As)).length ≤ M'.nL) (he : u_ent M'.nL (.ref b :: As) = l') (K : uW M' 0 l' [] h 0 0 (u_ko M np l rest (k + M'.mc) (n + M'.ms) Q)) : uW M pc l st h k n Q := by
  intro G B p la e R s m args below meth c Qf C F H locs ls hR hS hL
  obtain ⟨hd, rfl⟩ := hd
  subst hst he
  obtain ⟨m1, m2, m3, m4, m5, m6, m7, m8⟩ := hmo
  have hM := u_met (G := G) (B := B) (la := la) (as := .ref b :: As) m1 m2 m3 hlen K
  have hts := C.2.2.2.2.2.2.2.1
  have hKK := C.2.2.2.2.2.2.2.2.1
  have hRm := C.2.2.2.2.2.2.2.2.2.1
  subst hRm
  rw [hret] at m7
  have hw : u_ws' M' = Cond.code M'.y M'.cc M'.nL none :: uw_W := by simp only [u_ws', hret]
  have hG : GoodIn uw_W (u_ws' M') := by
    refine u_goodIn ?_
    rw [hret]
    exact m7
  have hp : PreS s H (u_Pc G B (.ref b :: As) h) (.ref b :: As) := ⟨u_blind G B _ h, u_pre hR hKK (Nat.le_trans C.2.2.2.2.2.2.2.2.2.2.1 hS.1)⟩
  rcases hlk with hlk | ⟨host, hlk⟩
  · refine u_after (M' := M') (va_runI (nL := M.nL) (own := M.y.cls) ⟨C.1, C.2.1, C.2.2.2.2.1, C.2.2.2.2.2.1, hts⟩ hM ⟨callB_of nargs hts hG hw rfl rfl (hts _ m8) (hts _ hlk) ⟨m5.1, m5.2, m6⟩ (u_room hdd m3 m4), hnm, hts _ hin⟩ hp rfl hna hL.1 rfl (lv_room hcat) hd ⟨hc, hs⟩) C F hS hL
  · refine u_after (M' := M') (va_runIN (nL := M.nL) (own := M.y.cls) (host := host) ⟨C.1, C.2.1, C.2.2.2.2.1, C.2.2.2.2.2.1, hts⟩ hM ⟨va_cnB nargs hts hG hw rfl rfl (hKK.2.2.2.1 _ hlk) (hts _ m8) ⟨m5.1, m5.2, m6⟩ (u_room hdd m3 m4), hnm, hts _ hin⟩ hp rfl hna hL.1 rfl (lv_room hcat) hd ⟨hc, hs⟩) C F hS hL
theorem us_objInit {idx a : Nat} (hd : uD M.cc pc (.invokespecial idx) 3 np) (hlk : Cond.methodLink M.y.cls idx Lib.objectInit ∈ uw_W) (hin : Cond.instanceMethod Lib.objectInit ∈ uw_W) (hco : Cond.code Lib.objectInit ⟨#[0xb1]⟩ 1 none ∈ uw_W) (hd1 : 1 ≤ M.d) (hcat : (st.map fun v => v.category).sum ≤ 8) (K : uW M np l st h k n Q) : uW M pc l (.ref a :: st) h k n Q := by
  intro G B p la e R s m args below meth c Qf C F H locs ls hR hS hL
  obtain ⟨hd, rfl⟩ := hd
  have hts := C.2.2.2.2.2.2.2.1
  have hRm := C.2.2.2.2.2.2.2.2.2.1
  subst hRm
  have hr : 1 ≤ (u_rm M).frames ∧ 2 * 0 + (st.map fun v => v.category).sum + 12 ≤ (u_rm M).locals := by
    simp only [u_rm, u_loc]
    split <;> omega
  exact W.objInit C.1 C.2.1 C.2.2.2.2.2.1 (hts _ hlk) (hts _ hin) (hts _ hco) rfl (hL.1.trans C.2.2.2.2.1.symm) rfl hd hr.1 hr.2 (K G B p la e (u_rm M) s m args below meth c Qf C F H locs ls hR hS hL)
theorem us_max {idx : Nat} {x y : Int} (hd : uD M.cc pc (.invokestatic idx) 3 np) (hlk : Cond.methodLink M.y.cls idx Lib.Math.max.name ∈ uw_W) (hst : Cond.static Lib.Math.max.name ∈ uw_W) (hini : Cond.initialized "java/lang/Math" ∈ uw_W) (hco : Cond.code Lib.Math.max.name Lib.Math.max.code 2 (some .int) ∈ uw_W) (hd1 : 1 ≤ M.d) (hcat : (st.map fun v => v.category).sum ≤ 8) (hc : k ≤ M.mc) (hs : n ≤ M.ms) (r : -2147483648 ≤ x ∧ x ≤ 2147483647 ∧ -2147483648 ≤ y ∧ y ≤ 2147483647) (K : uW M np l (ui (if x < y then y else x) :: st) h k n Q) : uW M pc l (ui y :: ui x :: st) h k n Q := by
  intro G B p la e R s m args below meth c Qf C F H locs ls hR hS hL
  obtain ⟨hd, rfl⟩ := hd
  have hts := C.2.2.2.2.2.2.2.1
  have hRm := C.2.2.2.2.2.2.2.2.2.1
  subst hRm
  have hr : 1 ≤ (u_rm M).frames ∧ (st.map fun v => v.category).sum + 13 ≤ (u_rm M).locals := by
    simp only [u_rm, u_loc]
    split <;> omega
  refine va_mmax C.1 C.2.1 (C.2.2.2.2.1.trans hL.1.symm) C.2.2.2.2.2.1 (hts _ hlk) (hts _ hst) (hts _ hini) (hts _ hco) hr.1 hr.2 hc hs hd ?_
  have he : (if Int32.ofInt x < Int32.ofInt y then Int32.ofInt y else Int32.ofInt x) = Int32.ofInt (if x < y then y else x) := by
    have hi : (Int32.ofInt x < Int32.ofInt y) ↔ x < y := by rw [Int32.lt_iff_toInt_lt, u_rng r.1 r.2.1, u_rng r.2.2.1 r.2.2.2]
    by_cases hxy : x < y
    · rw [if_pos (hi.mpr hxy), if_pos hxy]
    · rw [if_neg (fun q => hxy (hi.mp q)), if_neg hxy]
  rw [he]
  exact K G B p la e (u_rm M) s m args below meth c Qf C F H locs ls hR hS hL
theorem us_min {idx : Nat} {x y : Int} (hd : uD M.cc pc (.invokestatic idx) 3 np) (hlk : Cond.methodLink M.y.cls idx Lib.Math.min.name ∈ uw_W) (hst : Cond.static Lib.Math.min.name ∈ uw_W) (hini : Cond.initialized "java/lang/Math" ∈ uw_W) (hco : Cond.code Lib.Math.min.name Lib.Math.min.code 2 (some .int) ∈ uw_W) (hd1 : 1 ≤ M.d) (hcat : (st.map fun v => v.category).sum ≤ 8) (hc : k ≤ M.mc) (hs : n ≤ M.ms) (r : -2147483648 ≤ x ∧ x ≤ 2147483647 ∧ -2147483648 ≤ y ∧ y ≤ 2147483647) (K : uW M np l (ui (if y < x then y else x) :: st) h k n Q) : uW M pc l (ui y :: ui x :: st) h k n Q := by
  intro G B p la e R s m args below meth c Qf C F H locs ls hR hS hL
  obtain ⟨hd, rfl⟩ := hd
  have hts := C.2.2.2.2.2.2.2.1
  have hRm := C.2.2.2.2.2.2.2.2.2.1
  subst hRm
  have hr : 1 ≤ (u_rm M).frames ∧ (st.map fun v => v.category).sum + 13 ≤ (u_rm M).locals := by
    simp only [u_rm, u_loc]
    split <;> omega
  refine va_mmin C.1 C.2.1 (C.2.2.2.2.1.trans hL.1.symm) C.2.2.2.2.2.1 (hts _ hlk) (hts _ hst) (hts _ hini) (hts _ hco) hr.1 hr.2 hc hs hd ?_
  have he : (if Int32.ofInt y < Int32.ofInt x then Int32.ofInt y else Int32.ofInt x) = Int32.ofInt (if y < x then y else x) := by
    have hi : (Int32.ofInt y < Int32.ofInt x) ↔ y < x := by rw [Int32.lt_iff_toInt_lt, u_rng r.1 r.2.1, u_rng r.2.2.1 r.2.2.2]
    by_cases hxy : y < x
    · rw [if_pos (hi.mpr hxy), if_pos hxy]
    · rw [if_neg (fun q => hxy (hi.mp q)), if_neg hxy]
  rw [he]
  exact K G B p la e (u_rm M) s m args below meth c Qf C F H locs ls hR hS hL
/-! returns -/
theorem us_retv {v : Option Value} (hk : k ≤ M.mc) (hn : n ≤ M.ms) (hr : u_ret M pc v) (hst : st = v.toList) (hQ : Q v h) : uW M pc l st h k n Q := by
  intro G B p la e R s m args below meth c Qf C F H locs ls hR hS hL
  subst hst
  exact F H locs ls h pc k n v hR hS hk hn hQ hr
theorem us_return (hd : uD M.cc pc .return_ 1 np) (hr : M.ret = none) (hk : k ≤ M.mc) (hn : n ≤ M.ms) (hQ : Q none h) : uW M pc l [] h k n Q := us_retv hk hn (v := none) ⟨hd.1, hr⟩ rfl hQ
theorem us_ireturn {x : Int32} (hd : uD M.cc pc .ireturn 1 np) (hr : M.ret = some .int) (hk : k ≤ M.mc) (hn : n ≤ M.ms) (hQ : Q (some (.int x)) h) : uW M pc l [.int x] h k n Q := us_retv hk hn (v := some (.int x)) ⟨hd.1, .int, hr, rfl⟩ rfl hQ
theorem us_zreturn {b : Bool} (hd : uD M.cc pc .ireturn 1 np) (hr : M.ret = some .boolean) (hk : k ≤ M.mc) (hn : n ≤ M.ms) (hQ : Q (some (ub b)) h) : uW M pc l [ub b] h k n Q := us_retv hk hn (v := some (ub b)) ⟨hd.1, .boolean, hr, by cases b <;> decide⟩ rfl hQ
theorem us_lreturn {x : Int64} (hd : uD M.cc pc .lreturn 1 np) (hr : M.ret = some .long) (hk : k ≤ M.mc) (hn : n ≤ M.ms) (hQ : Q (some (.long x)) h) : uW M pc l [.long x] h k n Q := us_retv hk hn (v := some (.long x)) ⟨hd.1, hr⟩ rfl hQ
theorem us_areturn {a : Nat} {Cn : String} (hd : uD M.cc pc .areturn 1 np) (hr : M.ret = some (.object Cn)) (hk : k ≤ M.mc) (hn : n ≤ M.ms) (hQ : Q (some (.ref a)) h) : uW M pc l [.ref a] h k n Q := us_retv hk hn (v := some (.ref a)) ⟨hd.1, Cn, hr⟩ rfl hQ
end UC
end
section
/-! the methods: name, bytes, locals, what they return; rank; what they make -/
abbrev mCod_rowAt : uM := (⟨"UnmarkedPages$Codes", "rowAt", "(I)LUnmarkedPages$Row;"⟩, prog_2_method_3_code, 2, (some ((.object "UnmarkedPages$Row") : FieldType)), (0, 0, 0), none)
abbrev mCod_bitsOfCode : uM := (⟨"UnmarkedPages$Codes", "bitsOfCode", "(I)I"⟩, prog_2_method_6_code, 3, (some (.int : FieldType)), (0, 0, 0), none)
abbrev mFrl_size : uM := (⟨"UnmarkedPages$FrontList", "size", "()I"⟩, prog_3_method_2_code, 1, (some (.int : FieldType)), (0, 0, 0), none)
abbrev mFrl_clear : uM := (⟨"UnmarkedPages$FrontList", "clear", "()V"⟩, prog_3_method_3_code, 1, none, (0, 0, 0), none)
abbrev mFrl_at : uM := (⟨"UnmarkedPages$FrontList", "at", "(I)J"⟩, prog_3_method_4_code, 2, (some (.long : FieldType)), (0, 0, 0), none)
abbrev mFrl_placeOf : uM := (⟨"UnmarkedPages$FrontList", "placeOf", "(J)I"⟩, prog_3_method_5_code, 4, (some (.int : FieldType)), (0, 0, 0), none)
abbrev mKno_namesIn : uM := (⟨"UnmarkedPages$Known", "namesIn", "(I)LUnmarkedPages$FrontList;"⟩, prog_4_method_3_code, 2, (some ((.object "UnmarkedPages$FrontList") : FieldType)), (0, 0, 0), none)
abbrev mRea_hasFault : uM := (⟨"UnmarkedPages$Reader", "hasFault", "()Z"⟩, prog_7_method_2_code, 1, (some (.boolean : FieldType)), (0, 0, 0), none)
abbrev mRea_tell : uM := (⟨"UnmarkedPages$Reader", "tell", "(III)V"⟩, prog_7_method_15_code, 4, none, (0, 0, 0), none)
abbrev mRow_size : uM := (⟨"UnmarkedPages$Row", "size", "()I"⟩, prog_8_method_2_code, 1, (some (.int : FieldType)), (0, 0, 0), none)
abbrev mRow_clear : uM := (⟨"UnmarkedPages$Row", "clear", "()V"⟩, prog_8_method_3_code, 1, none, (0, 0, 0), none)
abbrev mRow_at : uM := (⟨"UnmarkedPages$Row", "at", "(I)I"⟩, prog_8_method_4_code, 2, (some (.int : FieldType)), (0, 0, 0), none)
abbrev mRow_add : uM := (⟨"UnmarkedPages$Row", "add", "(I)V"⟩, prog_8_method_5_code, 2, none, (0, 0, 0), none)
abbrev mRow_put : uM := (⟨"UnmarkedPages$Row", "put", "(II)V"⟩, prog_8_method_6_code, 3, none, (0, 0, 0), none)
abbrev mRow_fill : uM := (⟨"UnmarkedPages$Row", "fill", "(I)V"⟩, prog_8_method_7_code, 3, none, (0, 0, 0), none)
abbrev mRow_last : uM := (⟨"UnmarkedPages$Row", "last", "()I"⟩, prog_8_method_8_code, 1, (some (.int : FieldType)), (0, 0, 0), none)
abbrev mRow_removeLast : uM := (⟨"UnmarkedPages$Row", "removeLast", "()V"⟩, prog_8_method_9_code, 1, none, (0, 0, 0), none)
abbrev mRow_placeOf : uM := (⟨"UnmarkedPages$Row", "placeOf", "(I)I"⟩, prog_8_method_10_code, 3, (some (.int : FieldType)), (0, 0, 0), none)
abbrev mRow_countOf : uM := (⟨"UnmarkedPages$Row", "countOf", "(I)I"⟩, prog_8_method_11_code, 4, (some (.int : FieldType)), (0, 0, 0), none)
abbrev mSta_hasPage : uM := (⟨"UnmarkedPages$State", "hasPage", "(I)Z"⟩, prog_9_method_6_code, 2, (some (.boolean : FieldType)), (0, 0, 0), none)
abbrev mSta_pageAt : uM := (⟨"UnmarkedPages$State", "pageAt", "(I)LUnmarkedPages$Page;"⟩, prog_9_method_7_code, 2, (some ((.object "UnmarkedPages$Page") : FieldType)), (0, 0, 0), none)
abbrev mSta_bringToFront : uM := (⟨"UnmarkedPages$State", "bringToFront", "(I)V"⟩, prog_9_method_9_code, 4, none, (0, 0, 0), none)
abbrev mUmp_codesOf : uM := (⟨"UnmarkedPages", "codesOf", "(I)LUnmarkedPages$Codes;"⟩, prog_1_method_24_code, 2, (some ((.object "UnmarkedPages$Codes") : FieldType)), (0, 0, 0), none)
abbrev mUmp_isName : uM := (⟨"UnmarkedPages", "isName", "(I)Z"⟩, prog_1_method_25_code, 1, (some (.boolean : FieldType)), (0, 0, 0), none)
abbrev mUmp_isNameLetter : uM := (⟨"UnmarkedPages", "isNameLetter", "(I)Z"⟩, prog_1_method_26_code, 1, (some (.boolean : FieldType)), (0, 0, 0), none)
abbrev mMod_in : uM := (⟨"UnmarkedPagesModel", "in", "(III)Z"⟩, prog_11_method_2_code, 3, (some (.boolean : FieldType)), (0, 0, 0), none)
abbrev mMod_record : uM := (⟨"UnmarkedPagesModel", "record", "()V"⟩, prog_11_method_5_code, 2, none, (0, 0, 0), none)
abbrev mMod_box : uM := (⟨"UnmarkedPagesModel", "box", "(II)I"⟩, prog_11_method_6_code, 3, (some (.int : FieldType)), (0, 0, 0), none)
abbrev mMod_boxes : uM := (⟨"UnmarkedPagesModel", "boxes", "(III)V"⟩, prog_11_method_7_code, 4, none, (0, 0, 0), none)
abbrev mMod_fails : uM := (⟨"UnmarkedPagesModel", "fails", "(III)Z"⟩, prog_11_method_8_code, 4, (some (.boolean : FieldType)), (0, 0, 0), none)
abbrev mMod_steps : uM := (⟨"UnmarkedPagesModel", "steps", "(II)V"⟩, prog_11_method_10_code, 3, none, (0, 0, 0), none)
abbrev mMod_rankOf : uM := (⟨"UnmarkedPagesModel", "rankOf", "(III)I"⟩, prog_11_method_12_code, 10, (some (.int : FieldType)), (0, 0, 0), none)
abbrev mMod_takesText : uM := (⟨"UnmarkedPagesModel", "takesText", "()V"⟩, prog_11_method_18_code, 2, none, (0, 0, 0), none)
abbrev mMod_forgets : uM := (⟨"UnmarkedPagesModel", "forgets", "()V"⟩, prog_11_method_20_code, 2, none, (0, 0, 0), none)
abbrev mMod_codes : uM := (⟨"UnmarkedPagesModel", "codes", "(II)V"⟩, prog_11_method_21_code, 3, none, (0, 0, 0), none)
abbrev mMod_isWord : uM := (⟨"UnmarkedPagesModel", "isWord", "(III)Z"⟩, prog_11_method_24_code, 6, (some (.boolean : FieldType)), (0, 0, 0), none)
abbrev mMod_bitsOf : uM := (⟨"UnmarkedPagesModel", "bitsOf", "(I)I"⟩, prog_11_method_28_code, 3, (some (.int : FieldType)), (0, 0, 0), none)
abbrev mMod_rules : uM := (⟨"UnmarkedPagesModel", "rules", "()I"⟩, prog_11_method_32_code, 3, (some (.int : FieldType)), (0, 0, 0), none)
abbrev mMod_type : uM := (⟨"UnmarkedPagesModel", "type", "(C)I"⟩, prog_11_method_37_code, 2, (some (.int : FieldType)), (0, 0, 0), none)
abbrev mMod_clearText : uM := (⟨"UnmarkedPagesModel", "clearText", "()I"⟩, prog_11_method_38_code, 2, (some (.int : FieldType)), (0, 0, 0), none)
abbrev mMod_undo : uM := (⟨"UnmarkedPagesModel", "undo", "()I"⟩, prog_11_method_40_code, 2, (some (.int : FieldType)), (0, 0, 0), none)
abbrev mMod_keep : uM := (⟨"UnmarkedPagesModel", "keep", "()I"⟩, prog_11_method_41_code, 2, (some (.int : FieldType)), (0, 0, 0), none)
abbrev mInt_bitCount : uM := (⟨"java/lang/Integer", "bitCount", "(I)I"⟩, prog_12_method_49_code, 1, (some (.int : FieldType)), (0, 0, 0), none)
abbrev mCod_clear : uM := (⟨"UnmarkedPages$Codes", "clear", "()V"⟩, prog_2_method_2_code, 1, none, (1, 0, 0), none)
abbrev mCod_bitsOfRow : uM := (⟨"UnmarkedPages$Codes", "bitsOfRow", "(I)I"⟩, prog_2_method_4_code, 5, (some (.int : FieldType)), (1, 0, 0), none)
abbrev mFrl_init : uM := (⟨"UnmarkedPages$FrontList", "<init>", "(I)V"⟩, prog_3_method_1_code, 2, none, (1, 1, 238), none)
abbrev mFrl_meet : uM := (⟨"UnmarkedPages$FrontList", "meet", "(J)V"⟩, prog_3_method_6_code, 5, none, (1, 0, 0), none)
abbrev mKno_forget : uM := (⟨"UnmarkedPages$Known", "forget", "()V"⟩, prog_4_method_2_code, 2, none, (1, 0, 0), none)
abbrev mKno_valueOf : uM := (⟨"UnmarkedPages$Known", "valueOf", "(II)I"⟩, prog_4_method_4_code, 3, (some (.int : FieldType)), (1, 0, 0), none)
abbrev mPag_clear : uM := (⟨"UnmarkedPages$Page", "clear", "()V"⟩, prog_5_method_2_code, 1, none, (1, 0, 0), none)
abbrev mPag_addBox : uM := (⟨"UnmarkedPages$Page", "addBox", "(III)V"⟩, prog_5_method_4_code, 4, none, (1, 0, 0), none)
abbrev mPag_addWord : uM := (⟨"UnmarkedPages$Page", "addWord", "(II)V"⟩, prog_5_method_5_code, 3, none, (1, 0, 0), none)
abbrev mPag_lengthenWord : uM := (⟨"UnmarkedPages$Page", "lengthenWord", "()V"⟩, prog_5_method_6_code, 1, none, (1, 0, 0), none)
abbrev mPag_keyOfNote : uM := (⟨"UnmarkedPages$Page", "keyOfNote", "(II)I"⟩, prog_5_method_7_code, 4, (some (.int : FieldType)), (1, 0, 0), none)
abbrev mPag_boxInside : uM := (⟨"UnmarkedPages$Page", "boxInside", "(III)I"⟩, prog_5_method_11_code, 6, (some (.int : FieldType)), (1, 0, 0), none)
abbrev mPth_partCount : uM := (⟨"UnmarkedPages$PathReader", "partCount", "()I"⟩, prog_6_method_3_code, 1, (some (.int : FieldType)), (1, 0, 0), none)
abbrev mPth_takes : uM := (⟨"UnmarkedPages$PathReader", "takes", "(I)Z"⟩, prog_6_method_5_code, 2, (some (.boolean : FieldType)), (1, 0, 0), none)
abbrev mRea_expect : uM := (⟨"UnmarkedPages$Reader", "expect", "(ZII)V"⟩, prog_7_method_5_code, 4, none, (1, 0, 0), none)
abbrev mRea_takeKey : uM := (⟨"UnmarkedPages$Reader", "takeKey", "(II)V"⟩, prog_7_method_8_code, 4, none, (1, 0, 0), none)
abbrev mRea_latestName : uM := (⟨"UnmarkedPages$Reader", "latestName", "()I"⟩, prog_7_method_13_code, 1, (some (.int : FieldType)), (1, 0, 0), none)
abbrev mRea_close : uM := (⟨"UnmarkedPages$Reader", "close", "(I)V"⟩, prog_7_method_14_code, 2, none, (1, 0, 0), none)
abbrev mRow_init : uM := (⟨"UnmarkedPages$Row", "<init>", "(I)V"⟩, prog_8_method_1_code, 2, none, (1, 1, 100), none)
abbrev mRow_become : uM := (⟨"UnmarkedPages$Row", "become", "(LUnmarkedPages$Row;)V"⟩, prog_8_method_12_code, 4, none, (1, 0, 0), none)
abbrev mSta_ends : uM := (⟨"UnmarkedPages$State", "ends", "(II)Z"⟩, prog_9_method_3_code, 3, (some (.boolean : FieldType)), (1, 0, 0), none)
abbrev mSta_setEnds : uM := (⟨"UnmarkedPages$State", "setEnds", "(IIZ)V"⟩, prog_9_method_4_code, 4, none, (1, 0, 0), none)
abbrev mSta_ruleCount : uM := (⟨"UnmarkedPages$State", "ruleCount", "()I"⟩, prog_9_method_5_code, 1, (some (.int : FieldType)), (1, 0, 0), none)
abbrev mSta_letterCount : uM := (⟨"UnmarkedPages$State", "letterCount", "()I"⟩, prog_9_method_10_code, 3, (some (.int : FieldType)), (1, 0, 0), none)
abbrev mSta_stepCount : uM := (⟨"UnmarkedPages$State", "stepCount", "(I)I"⟩, prog_9_method_11_code, 4, (some (.int : FieldType)), (1, 0, 0), none)
abbrev mUmp_type : uM := (⟨"UnmarkedPages", "type", "(C)I"⟩, prog_1_method_6_code, 2, (some (.int : FieldType)), (1, 0, 0), none)
abbrev mUmp_clearText : uM := (⟨"UnmarkedPages", "clearText", "()I"⟩, prog_1_method_7_code, 2, (some (.int : FieldType)), (1, 0, 0), none)
abbrev mUmp_charAt : uM := (⟨"UnmarkedPages", "charAt", "(II)I"⟩, prog_1_method_12_code, 4, (some (.int : FieldType)), (1, 0, 0), none)
abbrev mUmp_code : uM := (⟨"UnmarkedPages", "code", "(III)I"⟩, prog_1_method_13_code, 5, (some (.int : FieldType)), (1, 0, 0), none)
abbrev mUmp_known : uM := (⟨"UnmarkedPages", "known", "(II)I"⟩, prog_1_method_17_code, 4, (some (.int : FieldType)), (1, 0, 0), none)
abbrev mMod_init : uM := (⟨"UnmarkedPagesModel", "<init>", "()V"⟩, prog_11_method_1_code, 1, none, (1, 20, 10353), none)
abbrev mMod_no : uM := (⟨"UnmarkedPagesModel", "no", "(I)Z"⟩, prog_11_method_3_code, 2, (some (.boolean : FieldType)), (1, 0, 0), none)
abbrev mMod_noName : uM := (⟨"UnmarkedPagesModel", "noName", "(I)Z"⟩, prog_11_method_4_code, 1, (some (.boolean : FieldType)), (1, 0, 0), none)
abbrev mMod_isAt : uM := (⟨"UnmarkedPagesModel", "isAt", "(III)Z"⟩, prog_11_method_9_code, 4, (some (.boolean : FieldType)), (1, 0, 0), none)
abbrev mMod_implies : uM := (⟨"UnmarkedPagesModel", "implies", "(IZ)V"⟩, prog_11_method_11_code, 5, none, (1, 0, 0), none)
abbrev mMod_codesName : uM := (⟨"UnmarkedPagesModel", "codesName", "(I)V"⟩, prog_11_method_22_code, 6, none, (1, 0, 0), none)
abbrev mMod_codesNotes : uM := (⟨"UnmarkedPagesModel", "codesNotes", "(I)V"⟩, prog_11_method_23_code, 7, none, (1, 0, 0), none)
abbrev mMod_codesWord : uM := (⟨"UnmarkedPagesModel", "codesWord", "(II)V"⟩, prog_11_method_25_code, 5, none, (1, 0, 0), none)
abbrev mMod_rowBits : uM := (⟨"UnmarkedPagesModel", "rowBits", "(I)I"⟩, prog_11_method_29_code, 4, (some (.int : FieldType)), (1, 0, 0), none)
abbrev mMod_unpackLast : uM := (⟨"UnmarkedPagesModel", "unpackLast", "()I"⟩, prog_11_method_35_code, 1, (some (.int : FieldType)), (1, 0, 0), none)
abbrev mMod_restore : uM := (⟨"UnmarkedPagesModel", "restore", "()I"⟩, prog_11_method_42_code, 2, (some (.int : FieldType)), (1, 0, 0), none)
abbrev mMod_partsOfText : uM := (⟨"UnmarkedPagesModel", "partsOfText", "()I"⟩, prog_11_method_47_code, 4, (some (.int : FieldType)), (1, 0, 0), none)
abbrev mMod_inner : uM := (⟨"UnmarkedPagesModel", "inner", "(III)I"⟩, prog_11_method_48_code, 6, (some (.int : FieldType)), (1, 0, 0), none)
abbrev mCod_init : uM := (⟨"UnmarkedPages$Codes", "<init>", "()V"⟩, prog_2_method_1_code, 1, none, (2, 8, 408), none)
abbrev mCod_bitsOfAll : uM := (⟨"UnmarkedPages$Codes", "bitsOfAll", "()I"⟩, prog_2_method_5_code, 3, (some (.int : FieldType)), (2, 0, 0), none)
abbrev mKno_init : uM := (⟨"UnmarkedPages$Known", "<init>", "()V"⟩, prog_4_method_1_code, 2, none, (2, 21, 2131), none)
abbrev mKno_takeName : uM := (⟨"UnmarkedPages$Known", "takeName", "(LUnmarkedPages$Page;ILUnmarkedPages$Row;)V"⟩, prog_4_method_6_code, 8, none, (2, 0, 0), none)
abbrev mKno_takeValue : uM := (⟨"UnmarkedPages$Known", "takeValue", "(IIILUnmarkedPages$Row;)V"⟩, prog_4_method_8_code, 6, none, (2, 0, 0), none)
abbrev mKno_takeWord : uM := (⟨"UnmarkedPages$Known", "takeWord", "(LUnmarkedPages$Page;ILUnmarkedPages$Row;)V"⟩, prog_4_method_9_code, 10, none, (2, 0, 0), none)
abbrev mPag_init : uM := (⟨"UnmarkedPages$Page", "<init>", "()V"⟩, prog_5_method_1_code, 1, none, (2, 16, 816), none)
abbrev mPag_become : uM := (⟨"UnmarkedPages$Page", "become", "(LUnmarkedPages$Page;)V"⟩, prog_5_method_3_code, 2, none, (2, 0, 0), none)
abbrev mPag_valueOfKey : uM := (⟨"UnmarkedPages$Page", "valueOfKey", "(II)I"⟩, prog_5_method_8_code, 4, (some (.int : FieldType)), (2, 0, 0), none)
abbrev mPag_keySet : uM := (⟨"UnmarkedPages$Page", "keySet", "(I)I"⟩, prog_5_method_9_code, 5, (some (.int : FieldType)), (2, 0, 0), none)
abbrev mPag_orderOfKeys : uM := (⟨"UnmarkedPages$Page", "orderOfKeys", "(II)I"⟩, prog_5_method_10_code, 8, (some (.int : FieldType)), (2, 0, 0), none)
abbrev mPth_init : uM := (⟨"UnmarkedPages$PathReader", "<init>", "()V"⟩, prog_6_method_1_code, 1, none, (2, 4, 204), none)
abbrev mPth_readFault : uM := (⟨"UnmarkedPages$PathReader", "readFault", "(LUnmarkedPages$Row;)I"⟩, prog_6_method_2_code, 3, (some (.int : FieldType)), (2, 0, 0), none)
abbrev mPth_boxIn : uM := (⟨"UnmarkedPages$PathReader", "boxIn", "(LUnmarkedPages$Page;)I"⟩, prog_6_method_4_code, 5, (some (.int : FieldType)), (2, 0, 0), none)
abbrev mRea_openBox : uM := (⟨"UnmarkedPages$Reader", "openBox", "(IILUnmarkedPages$State;)V"⟩, prog_7_method_7_code, 5, none, (2, 0, 0), none)
abbrev mRea_takeInBox : uM := (⟨"UnmarkedPages$Reader", "takeInBox", "(II)V"⟩, prog_7_method_9_code, 3, none, (2, 0, 0), none)
abbrev mRea_takeClosingEnd : uM := (⟨"UnmarkedPages$Reader", "takeClosingEnd", "(II)V"⟩, prog_7_method_11_code, 3, none, (2, 0, 0), none)
abbrev mRea_isEndedByClosing : uM := (⟨"UnmarkedPages$Reader", "isEndedByClosing", "(ILUnmarkedPages$State;)Z"⟩, prog_7_method_12_code, 4, (some (.boolean : FieldType)), (2, 0, 0), none)
abbrev mUmp_latest : uM := (⟨"UnmarkedPages", "latest", "(II)I"⟩, prog_1_method_18_code, 4, (some (.int : FieldType)), (2, 0, 0), none)
abbrev mMod_readNotes : uM := (⟨"UnmarkedPagesModel", "readNotes", "(II)I"⟩, prog_11_method_13_code, 7, (some (.int : FieldType)), (2, 0, 0), none)
abbrev mMod_closes : uM := (⟨"UnmarkedPagesModel", "closes", "(I)I"⟩, prog_11_method_15_code, 3, (some (.int : FieldType)), (2, 0, 0), none)
abbrev mMod_readWord : uM := (⟨"UnmarkedPagesModel", "readWord", "(I)I"⟩, prog_11_method_16_code, 4, (some (.int : FieldType)), (2, 0, 0), none)
abbrev mMod_packs : uM := (⟨"UnmarkedPagesModel", "packs", "()V"⟩, prog_11_method_26_code, 2, none, (2, 0, 0), none)
abbrev mMod_pageBits : uM := (⟨"UnmarkedPagesModel", "pageBits", "()I"⟩, prog_11_method_30_code, 1, (some (.int : FieldType)), (2, 0, 0), none)
abbrev mMod_rule : uM := (⟨"UnmarkedPagesModel", "rule", "(IIZ)I"⟩, prog_11_method_33_code, 4, (some (.int : FieldType)), (2, 0, 0), none)
abbrev mMod_charAt : uM := (⟨"UnmarkedPagesModel", "charAt", "(II)I"⟩, prog_11_method_43_code, 3, (some (.int : FieldType)), (2, 0, 0), none)
abbrev mKno_takeNotes : uM := (⟨"UnmarkedPages$Known", "takeNotes", "(LUnmarkedPages$Page;ILUnmarkedPages$Row;)V"⟩, prog_4_method_7_code, 7, none, (3, 0, 0), none)
abbrev mRea_init : uM := (⟨"UnmarkedPages$Reader", "<init>", "()V"⟩, prog_7_method_1_code, 1, none, (3, 21, 1028), none)
abbrev mRea_takeBehindMark : uM := (⟨"UnmarkedPages$Reader", "takeBehindMark", "(IILUnmarkedPages$State;)V"⟩, prog_7_method_6_code, 4, none, (3, 0, 0), none)
abbrev mRea_takeClosingName : uM := (⟨"UnmarkedPages$Reader", "takeClosingName", "(IILUnmarkedPages$State;)V"⟩, prog_7_method_10_code, 6, none, (3, 0, 0), none)
abbrev mSta_init : uM := (⟨"UnmarkedPages$State", "<init>", "()V"⟩, prog_9_method_1_code, 2, none, (3, 105, 5052), none)
abbrev mSta_addPage : uM := (⟨"UnmarkedPages$State", "addPage", "(LUnmarkedPages$Page;)V"⟩, prog_9_method_8_code, 2, none, (3, 0, 0), none)
abbrev mUmp_bits : uM := (⟨"UnmarkedPages", "bits", "(II)I"⟩, prog_1_method_14_code, 4, (some (.int : FieldType)), (3, 0, 0), none)
abbrev mUmp_toldOfBox : uM := (⟨"UnmarkedPages", "toldOfBox", "(LUnmarkedPages$Page;II)I"⟩, prog_1_method_20_code, 5, (some (.int : FieldType)), (3, 0, 0), none)
abbrev mUmp_bitsOfAllPages : uM := (⟨"UnmarkedPages", "bitsOfAllPages", "()I"⟩, prog_1_method_23_code, 3, (some (.int : FieldType)), (3, 0, 0), none)
abbrev mMod_opens : uM := (⟨"UnmarkedPagesModel", "opens", "(I)I"⟩, prog_11_method_14_code, 5, (some (.int : FieldType)), (3, 0, 0), none)
abbrev mKno_take : uM := (⟨"UnmarkedPages$Known", "take", "(LUnmarkedPages$Page;LUnmarkedPages$Codes;)V"⟩, prog_4_method_5_code, 4, none, (4, 0, 0), none)
abbrev mRea_take : uM := (⟨"UnmarkedPages$Reader", "take", "(IILUnmarkedPages$State;)V"⟩, prog_7_method_4_code, 4, none, (4, 0, 0), none)
abbrev mSta_become : uM := (⟨"UnmarkedPages$State", "become", "(LUnmarkedPages$State;)V"⟩, prog_9_method_2_code, 3, none, (4, 0, 0), none)
abbrev mUmp_init : uM := (⟨"UnmarkedPages", "<init>", "()V"⟩, prog_1_method_1_code, 2, none, (4, 774, 40000), none)
abbrev mUmp_path : uM := (⟨"UnmarkedPages", "path", "(II)I"⟩, prog_1_method_16_code, 6, (some (.int : FieldType)), (4, 0, 0), none)
abbrev mUmp_count : uM := (⟨"UnmarkedPages", "count", "(I)I"⟩, prog_1_method_19_code, 2, (some (.int : FieldType)), (4, 0, 0), none)
abbrev mMod_isPage : uM := (⟨"UnmarkedPagesModel", "isPage", "()Z"⟩, prog_11_method_17_code, 2, (some (.boolean : FieldType)), (4, 0, 0), none)
abbrev mRea_read : uM := (⟨"UnmarkedPages$Reader", "read", "(LUnmarkedPages$Row;LUnmarkedPages$State;)V"⟩, prog_7_method_3_code, 4, none, (5, 0, 0), none)
abbrev mUmp_keep : uM := (⟨"UnmarkedPages", "keep", "()I"⟩, prog_1_method_10_code, 1, (some (.int : FieldType)), (5, 0, 0), none)
abbrev mUmp_recordState : uM := (⟨"UnmarkedPages", "recordState", "()V"⟩, prog_1_method_21_code, 3, none, (5, 0, 0), none)
abbrev mUmp_packAnew : uM := (⟨"UnmarkedPages", "packAnew", "()V"⟩, prog_1_method_22_code, 2, none, (5, 0, 0), none)
abbrev mMod_takesPage : uM := (⟨"UnmarkedPagesModel", "takesPage", "(I)V"⟩, prog_11_method_19_code, 4, none, (5, 0, 0), none)
abbrev mMod_fault : uM := (⟨"UnmarkedPagesModel", "fault", "(I)I"⟩, prog_11_method_39_code, 2, (some (.int : FieldType)), (5, 0, 0), none)
abbrev mUmp_rule : uM := (⟨"UnmarkedPages", "rule", "(IIZ)I"⟩, prog_1_method_2_code, 4, (some (.int : FieldType)), (6, 0, 0), none)
abbrev mUmp_pack : uM := (⟨"UnmarkedPages", "pack", "()I"⟩, prog_1_method_3_code, 2, (some (.int : FieldType)), (6, 0, 0), none)
abbrev mUmp_unpackLast : uM := (⟨"UnmarkedPages", "unpackLast", "()I"⟩, prog_1_method_4_code, 1, (some (.int : FieldType)), (6, 0, 0), none)
abbrev mUmp_first : uM := (⟨"UnmarkedPages", "first", "(I)I"⟩, prog_1_method_5_code, 3, (some (.int : FieldType)), (6, 0, 0), none)
abbrev mUmp_fault : uM := (⟨"UnmarkedPages", "fault", "(I)I"⟩, prog_1_method_8_code, 2, (some (.int : FieldType)), (6, 0, 0), none)
abbrev mUmp_undo : uM := (⟨"UnmarkedPages", "undo", "()I"⟩, prog_1_method_9_code, 1, (some (.int : FieldType)), (6, 0, 0), none)
abbrev mUmp_restore : uM := (⟨"UnmarkedPages", "restore", "()I"⟩, prog_1_method_11_code, 1, (some (.int : FieldType)), (6, 0, 0), none)
abbrev mUmp_wouldTake : uM := (⟨"UnmarkedPages", "wouldTake", "(Z)I"⟩, prog_1_method_15_code, 4, (some (.int : FieldType)), (6, 0, 0), none)
abbrev mMod_packsUpTo : uM := (⟨"UnmarkedPagesModel", "packsUpTo", "(I)V"⟩, prog_11_method_27_code, 3, none, (6, 0, 0), none)
abbrev mMod_allBits : uM := (⟨"UnmarkedPagesModel", "allBits", "()I"⟩, prog_11_method_31_code, 3, (some (.int : FieldType)), (6, 0, 0), none)
abbrev mMod_path : uM := (⟨"UnmarkedPagesModel", "path", "(II)I"⟩, prog_11_method_49_code, 6, (some (.int : FieldType)), (6, 0, 0), none)
abbrev mMod_overPages : uM := (⟨"UnmarkedPagesModel", "overPages", "(I)I"⟩, prog_11_method_52_code, 4, (some (.int : FieldType)), (6, 0, 0), none)
abbrev mMod_pack : uM := (⟨"UnmarkedPagesModel", "pack", "()I"⟩, prog_11_method_34_code, 3, (some (.int : FieldType)), (7, 0, 0), none)
abbrev mMod_first : uM := (⟨"UnmarkedPagesModel", "first", "(I)I"⟩, prog_11_method_36_code, 6, (some (.int : FieldType)), (7, 0, 0), none)
abbrev mMod_code : uM := (⟨"UnmarkedPagesModel", "code", "(III)I"⟩, prog_11_method_44_code, 4, (some (.int : FieldType)), (7, 0, 0), none)
abbrev mMod_bits : uM := (⟨"UnmarkedPagesModel", "bits", "(II)I"⟩, prog_11_method_45_code, 3, (some (.int : FieldType)), (7, 0, 0), none)
abbrev mMod_wouldTake : uM := (⟨"UnmarkedPagesModel", "wouldTake", "(Z)I"⟩, prog_11_method_46_code, 2, (some (.int : FieldType)), (7, 0, 0), none)
abbrev mMod_known : uM := (⟨"UnmarkedPagesModel", "known", "(II)I"⟩, prog_11_method_50_code, 3, (some (.int : FieldType)), (7, 0, 0), none)
abbrev mMod_latest : uM := (⟨"UnmarkedPagesModel", "latest", "(II)I"⟩, prog_11_method_51_code, 3, (some (.int : FieldType)), (7, 0, 0), none)
abbrev mMod_count : uM := (⟨"UnmarkedPagesModel", "count", "(I)I"⟩, prog_11_method_53_code, 2, (some (.int : FieldType)), (7, 0, 0), none)
abbrev mLaw_law (b L : Nat) (xs : Nat → Int32) : uM := (x, code, maxLocals, ret, (9, 600000, 7302250), some (b, L, xs))
/-! what links: fields -/
set_option maxRecDepth 20000 in
theorem kF_Cod_14 : u_lkF "UnmarkedPages$Codes" 14 0 0 (.object "UnmarkedPages$Row") := ⟨("UnmarkedPages$Codes", uf_T uf_0, 4), rfl, by decide, rfl, by decide +kernel, Or.inl (uw_mem 269 rfl rfl)⟩
set_option maxRecDepth 20000 in
theorem kF_Cod_20 : u_lkF "UnmarkedPages$Codes" 20 0 1 (.object "UnmarkedPages$Row") := ⟨("UnmarkedPages$Codes", uf_T uf_0, 4), rfl, by decide, rfl, by decide +kernel, Or.inl (uw_mem 271 rfl rfl)⟩
set_option maxRecDepth 20000 in
theorem kF_Cod_23 : u_lkF "UnmarkedPages$Codes" 23 0 2 (.object "UnmarkedPages$Row") := ⟨("UnmarkedPages$Codes", uf_T uf_0, 4), rfl, by decide, rfl, by decide +kernel, Or.inl (uw_mem 273 rfl rfl)⟩
set_option maxRecDepth 20000 in
theorem kF_Cod_26 : u_lkF "UnmarkedPages$Codes" 26 0 3 (.object "UnmarkedPages$Row") := ⟨("UnmarkedPages$Codes", uf_T uf_0, 4), rfl, by decide, rfl, by decide +kernel, Or.inl (uw_mem 275 rfl rfl)⟩
set_option maxRecDepth 20000 in
theorem kF_Frl_21 : u_lkF "UnmarkedPages$FrontList" 21 1 1 (.int) := ⟨("UnmarkedPages$FrontList", uf_T uf_1, 2), rfl, by decide, rfl, by decide +kernel, Or.inl (uw_mem 236 rfl rfl)⟩
set_option maxRecDepth 20000 in
theorem kP_Frl_21 : u_lkP "UnmarkedPages$FrontList" 21 1 1 (.int) := ⟨("UnmarkedPages$FrontList", uf_T uf_1, 2), rfl, by decide, rfl, rfl, by decide +kernel, uw_mem 236 rfl rfl⟩
set_option maxRecDepth 20000 in
theorem kF_Frl_15 : u_lkF "UnmarkedPages$FrontList" 15 1 0 (.array .long) := ⟨("UnmarkedPages$FrontList", uf_T uf_1, 2), rfl, by decide, rfl, by decide +kernel, Or.inl (uw_mem 235 rfl rfl)⟩
set_option maxRecDepth 20000 in
theorem kF_Kno_11 : u_lkF "UnmarkedPages$Known" 11 2 0 (.array (.object "UnmarkedPages$FrontList")) := ⟨("UnmarkedPages$Known", uf_T uf_2, 4), rfl, by decide, rfl, by decide +kernel, Or.inl (uw_mem 246 rfl rfl)⟩
set_option maxRecDepth 20000 in
theorem kF_Rea_18 : u_lkF "UnmarkedPages$Reader" 18 5 2 (.int) := ⟨("UnmarkedPages$Reader", uf_T uf_5, 7), rfl, by decide, rfl, by decide +kernel, Or.inl (uw_mem 154 rfl rfl)⟩
set_option maxRecDepth 20000 in
theorem kP_Rea_139 : u_lkP "UnmarkedPages$Reader" 139 5 1 (.int) := ⟨("UnmarkedPages$Reader", uf_T uf_5, 7), rfl, by decide, rfl, rfl, by decide +kernel, uw_mem 153 rfl rfl⟩
set_option maxRecDepth 20000 in
theorem kP_Rea_18 : u_lkP "UnmarkedPages$Reader" 18 5 2 (.int) := ⟨("UnmarkedPages$Reader", uf_T uf_5, 7), rfl, by decide, rfl, rfl, by decide +kernel, uw_mem 154 rfl rfl⟩
set_option maxRecDepth 20000 in
theorem kP_Rea_142 : u_lkP "UnmarkedPages$Reader" 142 5 3 (.int) := ⟨("UnmarkedPages$Reader", uf_T uf_5, 7), rfl, by decide, rfl, rfl, by decide +kernel, uw_mem 157 rfl rfl⟩
set_option maxRecDepth 20000 in
theorem kF_Row_21 : u_lkF "UnmarkedPages$Row" 21 6 1 (.int) := ⟨("UnmarkedPages$Row", uf_T uf_6, 2), rfl, by decide, rfl, by decide +kernel, Or.inl (uw_mem 83 rfl rfl)⟩
set_option maxRecDepth 20000 in
theorem kP_Row_21 : u_lkP "UnmarkedPages$Row" 21 6 1 (.int) := ⟨("UnmarkedPages$Row", uf_T uf_6, 2), rfl, by decide, rfl, rfl, by decide +kernel, uw_mem 83 rfl rfl⟩
set_option maxRecDepth 20000 in
theorem kF_Row_15 : u_lkF "UnmarkedPages$Row" 15 6 0 (.array .int) := ⟨("UnmarkedPages$Row", uf_T uf_6, 2), rfl, by decide, rfl, by decide +kernel, Or.inl (uw_mem 82 rfl rfl)⟩
set_option maxRecDepth 20000 in
theorem kF_Sta_34 : u_lkF "UnmarkedPages$State" 34 7 2 (.int) := ⟨("UnmarkedPages$State", uf_T uf_7, 3), rfl, by decide, rfl, by decide +kernel, Or.inl (uw_mem 211 rfl rfl)⟩
set_option maxRecDepth 20000 in
theorem kF_Sta_22 : u_lkF "UnmarkedPages$State" 22 7 1 (.array (.object "UnmarkedPages$Page")) := ⟨("UnmarkedPages$State", uf_T uf_7, 3), rfl, by decide, rfl, by decide +kernel, Or.inl (uw_mem 210 rfl rfl)⟩
set_option maxRecDepth 20000 in
theorem kF_Ump_55 : u_lkF "UnmarkedPages" 55 8 9 (.array (.object "UnmarkedPages$Codes")) := ⟨("UnmarkedPages", uf_T uf_8, 12), rfl, by decide, rfl, by decide +kernel, Or.inl (uw_mem 295 rfl rfl)⟩
set_option maxRecDepth 20000 in
theorem kF_Ump_63 : u_lkF "UnmarkedPages" 63 8 11 (.object "UnmarkedPages$Codes") := ⟨("UnmarkedPages", uf_T uf_8, 12), rfl, by decide, rfl, by decide +kernel, Or.inl (uw_mem 297 rfl rfl)⟩
set_option maxRecDepth 20000 in
theorem kF_Mod_75 : u_lkF "UnmarkedPagesModel" 75 9 2 (.int) := ⟨("UnmarkedPagesModel", uf_T uf_9, 32), rfl, by decide, rfl, by decide +kernel, Or.inl (uw_mem 744 rfl rfl)⟩
set_option maxRecDepth 20000 in
theorem kF_Mod_13 : u_lkF "UnmarkedPagesModel" 13 9 1 (.array .int) := ⟨("UnmarkedPagesModel", uf_T uf_9, 32), rfl, by decide, rfl, by decide +kernel, Or.inl (uw_mem 743 rfl rfl)⟩
set_option maxRecDepth 20000 in
theorem kP_Mod_75 : u_lkP "UnmarkedPagesModel" 75 9 2 (.int) := ⟨("UnmarkedPagesModel", uf_T uf_9, 32), rfl, by decide, rfl, rfl, by decide +kernel, uw_mem 744 rfl rfl⟩
set_option maxRecDepth 20000 in
theorem kF_Mod_7 : u_lkF "UnmarkedPagesModel" 7 9 0 (.array .int) := ⟨("UnmarkedPagesModel", uf_T uf_9, 32), rfl, by decide, rfl, by decide +kernel, Or.inl (uw_mem 742 rfl rfl)⟩
set_option maxRecDepth 20000 in
theorem kF_Mod_31 : u_lkF "UnmarkedPagesModel" 31 9 11 (.array .int) := ⟨("UnmarkedPagesModel", uf_T uf_9, 32), rfl, by decide, rfl, by decide +kernel, Or.inl (uw_mem 753 rfl rfl)⟩
set_option maxRecDepth 20000 in
theorem kP_Mod_79 : u_lkP "UnmarkedPagesModel" 79 9 17 (.int) := ⟨("UnmarkedPagesModel", uf_T uf_9, 32), rfl, by decide, rfl, rfl, by decide +kernel, uw_mem 759 rfl rfl⟩
set_option maxRecDepth 20000 in
theorem kF_Mod_82 : u_lkF "UnmarkedPagesModel" 82 9 6 (.int) := ⟨("UnmarkedPagesModel", uf_T uf_9, 32), rfl, by decide, rfl, by decide +kernel, Or.inl (uw_mem 748 rfl rfl)⟩
set_option maxRecDepth 20000 in
theorem kP_Mod_85 : u_lkP "UnmarkedPagesModel" 85 9 18 (.int) := ⟨("UnmarkedPagesModel", uf_T uf_9, 32), rfl, by decide, rfl, rfl, by decide +kernel, uw_mem 760 rfl rfl⟩
set_option maxRecDepth 20000 in
theorem kP_Mod_88 : u_lkP "UnmarkedPagesModel" 88 9 19 (.int) := ⟨("UnmarkedPagesModel", uf_T uf_9, 32), rfl, by decide, rfl, rfl, by decide +kernel, uw_mem 761 rfl rfl⟩
set_option maxRecDepth 20000 in
theorem kF_Mod_34 : u_lkF "UnmarkedPagesModel" 34 9 13 (.array .int) := ⟨("UnmarkedPagesModel", uf_T uf_9, 32), rfl, by decide, rfl, by decide +kernel, Or.inl (uw_mem 755 rfl rfl)⟩
set_option maxRecDepth 20000 in
theorem kF_Mod_91 : u_lkF "UnmarkedPagesModel" 91 9 15 (.int) := ⟨("UnmarkedPagesModel", uf_T uf_9, 32), rfl, by decide, rfl, by decide +kernel, Or.inl (uw_mem 757 rfl rfl)⟩
set_option maxRecDepth 20000 in
theorem kF_Mod_37 : u_lkF "UnmarkedPagesModel" 37 9 14 (.array .int) := ⟨("UnmarkedPagesModel", uf_T uf_9, 32), rfl, by decide, rfl, by decide +kernel, Or.inl (uw_mem 756 rfl rfl)⟩
set_option maxRecDepth 20000 in
theorem kP_Mod_91 : u_lkP "UnmarkedPagesModel" 91 9 15 (.int) := ⟨("UnmarkedPagesModel", uf_T uf_9, 32), rfl, by decide, rfl, rfl, by decide +kernel, uw_mem 757 rfl rfl⟩
set_option maxRecDepth 20000 in
theorem kF_Mod_140 : u_lkF "UnmarkedPagesModel" 140 9 28 (.int) := ⟨("UnmarkedPagesModel", uf_T uf_9, 32), rfl, by decide, rfl, by decide +kernel, Or.inl (uw_mem 770 rfl rfl)⟩
set_option maxRecDepth 20000 in
theorem kP_Mod_82 : u_lkP "UnmarkedPagesModel" 82 9 6 (.int) := ⟨("UnmarkedPagesModel", uf_T uf_9, 32), rfl, by decide, rfl, rfl, by decide +kernel, uw_mem 748 rfl rfl⟩
set_option maxRecDepth 20000 in
theorem kF_Mod_19 : u_lkF "UnmarkedPagesModel" 19 9 5 (.array .int) := ⟨("UnmarkedPagesModel", uf_T uf_9, 32), rfl, by decide, rfl, by decide +kernel, Or.inl (uw_mem 747 rfl rfl)⟩
set_option maxRecDepth 20000 in
theorem kF_Mod_61 : u_lkF "UnmarkedPagesModel" 61 9 29 (.array .char) := ⟨("UnmarkedPagesModel", uf_T uf_9, 32), rfl, by decide, rfl, by decide +kernel, Or.inl (uw_mem 771 rfl rfl)⟩
set_option maxRecDepth 20000 in
theorem kF_Mod_22 : u_lkF "UnmarkedPagesModel" 22 9 7 (.array .int) := ⟨("UnmarkedPagesModel", uf_T uf_9, 32), rfl, by decide, rfl, by decide +kernel, Or.inl (uw_mem 749 rfl rfl)⟩
set_option maxRecDepth 20000 in
theorem kP_Mod_147 : u_lkP "UnmarkedPagesModel" 147 9 25 (.int) := ⟨("UnmarkedPagesModel", uf_T uf_9, 32), rfl, by decide, rfl, rfl, by decide +kernel, uw_mem 767 rfl rfl⟩
set_option maxRecDepth 20000 in
theorem kF_Mod_43 : u_lkF "UnmarkedPagesModel" 43 9 21 (.array .int) := ⟨("UnmarkedPagesModel", uf_T uf_9, 32), rfl, by decide, rfl, by decide +kernel, Or.inl (uw_mem 763 rfl rfl)⟩
set_option maxRecDepth 20000 in
theorem kF_Mod_46 : u_lkF "UnmarkedPagesModel" 46 9 22 (.array .int) := ⟨("UnmarkedPagesModel", uf_T uf_9, 32), rfl, by decide, rfl, by decide +kernel, Or.inl (uw_mem 764 rfl rfl)⟩
set_option maxRecDepth 20000 in
theorem kF_Mod_49 : u_lkF "UnmarkedPagesModel" 49 9 23 (.array .int) := ⟨("UnmarkedPagesModel", uf_T uf_9, 32), rfl, by decide, rfl, by decide +kernel, Or.inl (uw_mem 765 rfl rfl)⟩
set_option maxRecDepth 20000 in
theorem kF_Mod_55 : u_lkF "UnmarkedPagesModel" 55 9 26 (.array .int) := ⟨("UnmarkedPagesModel", uf_T uf_9, 32), rfl, by decide, rfl, by decide +kernel, Or.inl (uw_mem 768 rfl rfl)⟩
set_option maxRecDepth 20000 in
theorem kF_Mod_58 : u_lkF "UnmarkedPagesModel" 58 9 27 (.array .int) := ⟨("UnmarkedPagesModel", uf_T uf_9, 32), rfl, by decide, rfl, by decide +kernel, Or.inl (uw_mem 769 rfl rfl)⟩
set_option maxRecDepth 20000 in
theorem kF_Mod_52 : u_lkF "UnmarkedPagesModel" 52 9 24 (.array .int) := ⟨("UnmarkedPagesModel", uf_T uf_9, 32), rfl, by decide, rfl, by decide +kernel, Or.inl (uw_mem 766 rfl rfl)⟩
set_option maxRecDepth 20000 in
theorem kP_Mod_140 : u_lkP "UnmarkedPagesModel" 140 9 28 (.int) := ⟨("UnmarkedPagesModel", uf_T uf_9, 32), rfl, by decide, rfl, rfl, by decide +kernel, uw_mem 770 rfl rfl⟩
set_option maxRecDepth 20000 in
theorem kF_Mod_16 : u_lkF "UnmarkedPagesModel" 16 9 3 (.array .int) := ⟨("UnmarkedPagesModel", uf_T uf_9, 32), rfl, by decide, rfl, by decide +kernel, Or.inl (uw_mem 745 rfl rfl)⟩
set_option maxRecDepth 20000 in
theorem kP_Mod_206 : u_lkP "UnmarkedPagesModel" 206 9 4 (.boolean) := ⟨("UnmarkedPagesModel", uf_T uf_9, 32), rfl, by decide, rfl, rfl, by decide +kernel, uw_mem 746 rfl rfl⟩
set_option maxRecDepth 20000 in
theorem kQ_Frl_15 : u_lkQ "UnmarkedPages$FrontList" 15 1 0 (.array .long) := ⟨("UnmarkedPages$FrontList", uf_T uf_1, 2), rfl, by decide, rfl, rfl, rfl, by decide +kernel, uw_mem 235 rfl rfl⟩
set_option maxRecDepth 20000 in
theorem kF_Kno_20 : u_lkF "UnmarkedPages$Known" 20 2 1 (.object "UnmarkedPages$FrontList") := ⟨("UnmarkedPages$Known", uf_T uf_2, 4), rfl, by decide, rfl, by decide +kernel, Or.inl (uw_mem 247 rfl rfl)⟩
set_option maxRecDepth 20000 in
theorem kF_Kno_27 : u_lkF "UnmarkedPages$Known" 27 2 2 (.object "UnmarkedPages$Row") := ⟨("UnmarkedPages$Known", uf_T uf_2, 4), rfl, by decide, rfl, by decide +kernel, Or.inl (uw_mem 249 rfl rfl)⟩
set_option maxRecDepth 20000 in
theorem kF_Kno_31 : u_lkF "UnmarkedPages$Known" 31 2 3 (.object "UnmarkedPages$Row") := ⟨("UnmarkedPages$Known", uf_T uf_2, 4), rfl, by decide, rfl, by decide +kernel, Or.inl (uw_mem 250 rfl rfl)⟩
set_option maxRecDepth 20000 in
theorem kF_Pag_14 : u_lkF "UnmarkedPages$Page" 14 3 0 (.object "UnmarkedPages$Row") := ⟨("UnmarkedPages$Page", uf_T uf_3, 8), rfl, by decide, rfl, by decide +kernel, Or.inl (uw_mem 104 rfl rfl)⟩
set_option maxRecDepth 20000 in
theorem kF_Pag_20 : u_lkF "UnmarkedPages$Page" 20 3 1 (.object "UnmarkedPages$Row") := ⟨("UnmarkedPages$Page", uf_T uf_3, 8), rfl, by decide, rfl, by decide +kernel, Or.inl (uw_mem 109 rfl rfl)⟩
set_option maxRecDepth 20000 in
theorem kF_Pag_23 : u_lkF "UnmarkedPages$Page" 23 3 2 (.object "UnmarkedPages$Row") := ⟨("UnmarkedPages$Page", uf_T uf_3, 8), rfl, by decide, rfl, by decide +kernel, Or.inl (uw_mem 113 rfl rfl)⟩
set_option maxRecDepth 20000 in
theorem kF_Pag_26 : u_lkF "UnmarkedPages$Page" 26 3 3 (.object "UnmarkedPages$Row") := ⟨("UnmarkedPages$Page", uf_T uf_3, 8), rfl, by decide, rfl, by decide +kernel, Or.inl (uw_mem 116 rfl rfl)⟩
set_option maxRecDepth 20000 in
theorem kF_Pag_29 : u_lkF "UnmarkedPages$Page" 29 3 4 (.object "UnmarkedPages$Row") := ⟨("UnmarkedPages$Page", uf_T uf_3, 8), rfl, by decide, rfl, by decide +kernel, Or.inl (uw_mem 120 rfl rfl)⟩
set_option maxRecDepth 20000 in
theorem kF_Pag_32 : u_lkF "UnmarkedPages$Page" 32 3 5 (.object "UnmarkedPages$Row") := ⟨("UnmarkedPages$Page", uf_T uf_3, 8), rfl, by decide, rfl, by decide +kernel, Or.inl (uw_mem 123 rfl rfl)⟩
set_option maxRecDepth 20000 in
theorem kF_Pag_35 : u_lkF "UnmarkedPages$Page" 35 3 6 (.object "UnmarkedPages$Row") := ⟨("UnmarkedPages$Page", uf_T uf_3, 8), rfl, by decide, rfl, by decide +kernel, Or.inl (uw_mem 125 rfl rfl)⟩
set_option maxRecDepth 20000 in
theorem kF_Pag_38 : u_lkF "UnmarkedPages$Page" 38 3 7 (.object "UnmarkedPages$Row") := ⟨("UnmarkedPages$Page", uf_T uf_3, 8), rfl, by decide, rfl, by decide +kernel, Or.inl (uw_mem 127 rfl rfl)⟩
set_option maxRecDepth 20000 in
theorem kF_Pth_14 : u_lkF "UnmarkedPages$PathReader" 14 4 0 (.object "UnmarkedPages$Row") := ⟨("UnmarkedPages$PathReader", uf_T uf_4, 3), rfl, by decide, rfl, by decide +kernel, Or.inl (uw_mem 184 rfl rfl)⟩
set_option maxRecDepth 20000 in
theorem kF_Pth_26 : u_lkF "UnmarkedPages$PathReader" 26 4 2 (.int) := ⟨("UnmarkedPages$PathReader", uf_T uf_4, 3), rfl, by decide, rfl, by decide +kernel, Or.inl (uw_mem 186 rfl rfl)⟩
set_option maxRecDepth 20000 in
theorem kF_Pth_20 : u_lkF "UnmarkedPages$PathReader" 20 4 1 (.object "UnmarkedPages$Row") := ⟨("UnmarkedPages$PathReader", uf_T uf_4, 3), rfl, by decide, rfl, by decide +kernel, Or.inl (uw_mem 185 rfl rfl)⟩
set_option maxRecDepth 20000 in
theorem kP_Pth_26 : u_lkP "UnmarkedPages$PathReader" 26 4 2 (.int) := ⟨("UnmarkedPages$PathReader", uf_T uf_4, 3), rfl, by decide, rfl, rfl, by decide +kernel, uw_mem 186 rfl rfl⟩
set_option maxRecDepth 20000 in
theorem kP_Rea_38 : u_lkP "UnmarkedPages$Reader" 38 5 4 (.int) := ⟨("UnmarkedPages$Reader", uf_T uf_5, 7), rfl, by decide, rfl, rfl, by decide +kernel, uw_mem 158 rfl rfl⟩
set_option maxRecDepth 20000 in
theorem kF_Rea_31 : u_lkF "UnmarkedPages$Reader" 31 5 6 (.object "UnmarkedPages$Row") := ⟨("UnmarkedPages$Reader", uf_T uf_5, 7), rfl, by decide, rfl, by decide +kernel, Or.inl (uw_mem 160 rfl rfl)⟩
set_option maxRecDepth 20000 in
theorem kF_Rea_12 : u_lkF "UnmarkedPages$Reader" 12 5 0 (.object "UnmarkedPages$Page") := ⟨("UnmarkedPages$Reader", uf_T uf_5, 7), rfl, by decide, rfl, by decide +kernel, Or.inl (uw_mem 150 rfl rfl)⟩
set_option maxRecDepth 20000 in
theorem kF_Rea_102 : u_lkF "UnmarkedPages$Reader" 102 3 3 (.object "UnmarkedPages$Row") := ⟨("UnmarkedPages$Page", uf_T uf_3, 8), rfl, by decide, rfl, by decide +kernel, Or.inl (uw_mem 119 rfl rfl)⟩
set_option maxRecDepth 20000 in
theorem kF_Rea_27 : u_lkF "UnmarkedPages$Reader" 27 5 5 (.object "UnmarkedPages$Row") := ⟨("UnmarkedPages$Reader", uf_T uf_5, 7), rfl, by decide, rfl, by decide +kernel, Or.inl (uw_mem 159 rfl rfl)⟩
set_option maxRecDepth 20000 in
theorem kF_Rea_133 : u_lkF "UnmarkedPages$Reader" 133 3 1 (.object "UnmarkedPages$Row") := ⟨("UnmarkedPages$Page", uf_T uf_3, 8), rfl, by decide, rfl, by decide +kernel, Or.inl (uw_mem 112 rfl rfl)⟩
set_option maxRecDepth 20000 in
theorem kQ_Row_15 : u_lkQ "UnmarkedPages$Row" 15 6 0 (.array .int) := ⟨("UnmarkedPages$Row", uf_T uf_6, 2), rfl, by decide, rfl, rfl, rfl, by decide +kernel, uw_mem 82 rfl rfl⟩
set_option maxRecDepth 20000 in
theorem kF_Sta_14 : u_lkF "UnmarkedPages$State" 14 7 0 (.object "UnmarkedPages$Row") := ⟨("UnmarkedPages$State", uf_T uf_7, 3), rfl, by decide, rfl, by decide +kernel, Or.inl (uw_mem 209 rfl rfl)⟩
set_option maxRecDepth 20000 in
theorem kF_Sta_59 : u_lkF "UnmarkedPages$State" 59 3 0 (.object "UnmarkedPages$Row") := ⟨("UnmarkedPages$Page", uf_T uf_3, 8), rfl, by decide, rfl, by decide +kernel, Or.inl (uw_mem 107 rfl rfl)⟩
set_option maxRecDepth 20000 in
theorem kF_Sta_66 : u_lkF "UnmarkedPages$State" 66 3 1 (.object "UnmarkedPages$Row") := ⟨("UnmarkedPages$Page", uf_T uf_3, 8), rfl, by decide, rfl, by decide +kernel, Or.inl (uw_mem 111 rfl rfl)⟩
set_option maxRecDepth 20000 in
theorem kF_Ump_14 : u_lkF "UnmarkedPages" 14 8 0 (.object "UnmarkedPages$Row") := ⟨("UnmarkedPages", uf_T uf_8, 12), rfl, by decide, rfl, by decide +kernel, Or.inl (uw_mem 286 rfl rfl)⟩
set_option maxRecDepth 20000 in
theorem kF_Ump_35 : u_lkF "UnmarkedPages" 35 8 3 (.object "UnmarkedPages$State") := ⟨("UnmarkedPages", uf_T uf_8, 12), rfl, by decide, rfl, by decide +kernel, Or.inl (uw_mem 289 rfl rfl)⟩
set_option maxRecDepth 20000 in
theorem kF_Ump_162 : u_lkF "UnmarkedPages" 162 3 0 (.object "UnmarkedPages$Row") := ⟨("UnmarkedPages$Page", uf_T uf_3, 8), rfl, by decide, rfl, by decide +kernel, Or.inl (uw_mem 108 rfl rfl)⟩
set_option maxRecDepth 20000 in
theorem kF_Ump_49 : u_lkF "UnmarkedPages" 49 8 8 (.object "UnmarkedPages$Known") := ⟨("UnmarkedPages", uf_T uf_8, 12), rfl, by decide, rfl, by decide +kernel, Or.inl (uw_mem 294 rfl rfl)⟩
set_option maxRecDepth 20000 in
theorem kQ_Mod_7 : u_lkQ "UnmarkedPagesModel" 7 9 0 (.array .int) := ⟨("UnmarkedPagesModel", uf_T uf_9, 32), rfl, by decide, rfl, rfl, rfl, by decide +kernel, uw_mem 742 rfl rfl⟩
set_option maxRecDepth 20000 in
theorem kQ_Mod_13 : u_lkQ "UnmarkedPagesModel" 13 9 1 (.array .int) := ⟨("UnmarkedPagesModel", uf_T uf_9, 32), rfl, by decide, rfl, rfl, rfl, by decide +kernel, uw_mem 743 rfl rfl⟩
set_option maxRecDepth 20000 in
theorem kQ_Mod_16 : u_lkQ "UnmarkedPagesModel" 16 9 3 (.array .int) := ⟨("UnmarkedPagesModel", uf_T uf_9, 32), rfl, by decide, rfl, rfl, rfl, by decide +kernel, uw_mem 745 rfl rfl⟩
set_option maxRecDepth 20000 in
theorem kQ_Mod_19 : u_lkQ "UnmarkedPagesModel" 19 9 5 (.array .int) := ⟨("UnmarkedPagesModel", uf_T uf_9, 32), rfl, by decide, rfl, rfl, rfl, by decide +kernel, uw_mem 747 rfl rfl⟩
set_option maxRecDepth 20000 in
theorem kQ_Mod_22 : u_lkQ "UnmarkedPagesModel" 22 9 7 (.array .int) := ⟨("UnmarkedPagesModel", uf_T uf_9, 32), rfl, by decide, rfl, rfl, rfl, by decide +kernel, uw_mem 749 rfl rfl⟩
set_option maxRecDepth 20000 in
theorem kQ_Mod_25 : u_lkQ "UnmarkedPagesModel" 25 9 8 (.array .int) := ⟨("UnmarkedPagesModel", uf_T uf_9, 32), rfl, by decide, rfl, rfl, rfl, by decide +kernel, uw_mem 750 rfl rfl⟩
set_option maxRecDepth 20000 in
theorem kQ_Mod_28 : u_lkQ "UnmarkedPagesModel" 28 9 10 (.array .int) := ⟨("UnmarkedPagesModel", uf_T uf_9, 32), rfl, by decide, rfl, rfl, rfl, by decide +kernel, uw_mem 752 rfl rfl⟩
set_option maxRecDepth 20000 in
theorem kQ_Mod_31 : u_lkQ "UnmarkedPagesModel" 31 9 11 (.array .int) := ⟨("UnmarkedPagesModel", uf_T uf_9, 32), rfl, by decide, rfl, rfl, rfl, by decide +kernel, uw_mem 753 rfl rfl⟩
set_option maxRecDepth 20000 in
theorem kQ_Mod_34 : u_lkQ "UnmarkedPagesModel" 34 9 13 (.array .int) := ⟨("UnmarkedPagesModel", uf_T uf_9, 32), rfl, by decide, rfl, rfl, rfl, by decide +kernel, uw_mem 755 rfl rfl⟩
set_option maxRecDepth 20000 in
theorem kQ_Mod_37 : u_lkQ "UnmarkedPagesModel" 37 9 14 (.array .int) := ⟨("UnmarkedPagesModel", uf_T uf_9, 32), rfl, by decide, rfl, rfl, rfl, by decide +kernel, uw_mem 756 rfl rfl⟩
set_option maxRecDepth 20000 in
theorem kQ_Mod_40 : u_lkQ "UnmarkedPagesModel" 40 9 20 (.array .int) := ⟨("UnmarkedPagesModel", uf_T uf_9, 32), rfl, by decide, rfl, rfl, rfl, by decide +kernel, uw_mem 762 rfl rfl⟩
set_option maxRecDepth 20000 in
theorem kQ_Mod_43 : u_lkQ "UnmarkedPagesModel" 43 9 21 (.array .int) := ⟨("UnmarkedPagesModel", uf_T uf_9, 32), rfl, by decide, rfl, rfl, rfl, by decide +kernel, uw_mem 763 rfl rfl⟩
set_option maxRecDepth 20000 in
theorem kQ_Mod_46 : u_lkQ "UnmarkedPagesModel" 46 9 22 (.array .int) := ⟨("UnmarkedPagesModel", uf_T uf_9, 32), rfl, by decide, rfl, rfl, rfl, by decide +kernel, uw_mem 764 rfl rfl⟩
set_option maxRecDepth 20000 in
theorem kQ_Mod_49 : u_lkQ "UnmarkedPagesModel" 49 9 23 (.array .int) := ⟨("UnmarkedPagesModel", uf_T uf_9, 32), rfl, by decide, rfl, rfl, rfl, by decide +kernel, uw_mem 765 rfl rfl⟩
set_option maxRecDepth 20000 in
theorem kQ_Mod_52 : u_lkQ "UnmarkedPagesModel" 52 9 24 (.array .int) := ⟨("UnmarkedPagesModel", uf_T uf_9, 32), rfl, by decide, rfl, rfl, rfl, by decide +kernel, uw_mem 766 rfl rfl⟩
set_option maxRecDepth 20000 in
theorem kQ_Mod_55 : u_lkQ "UnmarkedPagesModel" 55 9 26 (.array .int) := ⟨("UnmarkedPagesModel", uf_T uf_9, 32), rfl, by decide, rfl, rfl, rfl, by decide +kernel, uw_mem 768 rfl rfl⟩
set_option maxRecDepth 20000 in
theorem kQ_Mod_58 : u_lkQ "UnmarkedPagesModel" 58 9 27 (.array .int) := ⟨("UnmarkedPagesModel", uf_T uf_9, 32), rfl, by decide, rfl, rfl, rfl, by decide +kernel, uw_mem 769 rfl rfl⟩
set_option maxRecDepth 20000 in
theorem kQ_Mod_61 : u_lkQ "UnmarkedPagesModel" 61 9 29 (.array .char) := ⟨("UnmarkedPagesModel", uf_T uf_9, 32), rfl, by decide, rfl, rfl, rfl, by decide +kernel, uw_mem 771 rfl rfl⟩
set_option maxRecDepth 20000 in
theorem kQ_Mod_65 : u_lkQ "UnmarkedPagesModel" 65 9 30 (.array .int) := ⟨("UnmarkedPagesModel", uf_T uf_9, 32), rfl, by decide, rfl, rfl, rfl, by decide +kernel, uw_mem 772 rfl rfl⟩
set_option maxRecDepth 20000 in
theorem kQ_Mod_68 : u_lkQ "UnmarkedPagesModel" 68 9 31 (.array .int) := ⟨("UnmarkedPagesModel", uf_T uf_9, 32), rfl, by decide, rfl, rfl, rfl, by decide +kernel, uw_mem 773 rfl rfl⟩
set_option maxRecDepth 20000 in
theorem kF_Mod_94 : u_lkF "UnmarkedPagesModel" 94 9 9 (.int) := ⟨("UnmarkedPagesModel", uf_T uf_9, 32), rfl, by decide, rfl, by decide +kernel, Or.inl (uw_mem 751 rfl rfl)⟩
set_option maxRecDepth 20000 in
theorem kF_Mod_25 : u_lkF "UnmarkedPagesModel" 25 9 8 (.array .int) := ⟨("UnmarkedPagesModel", uf_T uf_9, 32), rfl, by decide, rfl, by decide +kernel, Or.inl (uw_mem 750 rfl rfl)⟩
set_option maxRecDepth 20000 in
theorem kP_Mod_94 : u_lkP "UnmarkedPagesModel" 94 9 9 (.int) := ⟨("UnmarkedPagesModel", uf_T uf_9, 32), rfl, by decide, rfl, rfl, by decide +kernel, uw_mem 751 rfl rfl⟩
set_option maxRecDepth 20000 in
theorem kF_Mod_104 : u_lkF "UnmarkedPagesModel" 104 9 16 (.int) := ⟨("UnmarkedPagesModel", uf_T uf_9, 32), rfl, by decide, rfl, by decide +kernel, Or.inl (uw_mem 758 rfl rfl)⟩
set_option maxRecDepth 20000 in
theorem kP_Mod_104 : u_lkP "UnmarkedPagesModel" 104 9 16 (.int) := ⟨("UnmarkedPagesModel", uf_T uf_9, 32), rfl, by decide, rfl, rfl, by decide +kernel, uw_mem 758 rfl rfl⟩
set_option maxRecDepth 20000 in
theorem kF_Mod_40 : u_lkF "UnmarkedPagesModel" 40 9 20 (.array .int) := ⟨("UnmarkedPagesModel", uf_T uf_9, 32), rfl, by decide, rfl, by decide +kernel, Or.inl (uw_mem 762 rfl rfl)⟩
set_option maxRecDepth 20000 in
theorem kF_Mod_147 : u_lkF "UnmarkedPagesModel" 147 9 25 (.int) := ⟨("UnmarkedPagesModel", uf_T uf_9, 32), rfl, by decide, rfl, by decide +kernel, Or.inl (uw_mem 767 rfl rfl)⟩
set_option maxRecDepth 20000 in
theorem kF_Mod_206 : u_lkF "UnmarkedPagesModel" 206 9 4 (.boolean) := ⟨("UnmarkedPagesModel", uf_T uf_9, 32), rfl, by decide, rfl, by decide +kernel, Or.inl (uw_mem 746 rfl rfl)⟩
set_option maxRecDepth 20000 in
theorem kF_Mod_65 : u_lkF "UnmarkedPagesModel" 65 9 30 (.array .int) := ⟨("UnmarkedPagesModel", uf_T uf_9, 32), rfl, by decide, rfl, by decide +kernel, Or.inl (uw_mem 772 rfl rfl)⟩
set_option maxRecDepth 20000 in
theorem kF_Mod_68 : u_lkF "UnmarkedPagesModel" 68 9 31 (.array .int) := ⟨("UnmarkedPagesModel", uf_T uf_9, 32), rfl, by decide, rfl, by decide +kernel, Or.inl (uw_mem 773 rfl rfl)⟩
set_option maxRecDepth 20000 in
theorem kF_Mod_124 : u_lkF "UnmarkedPagesModel" 124 9 12 (.int) := ⟨("UnmarkedPagesModel", uf_T uf_9, 32), rfl, by decide, rfl, by decide +kernel, Or.inl (uw_mem 754 rfl rfl)⟩
set_option maxRecDepth 20000 in
theorem kQ_Cod_14 : u_lkQ "UnmarkedPages$Codes" 14 0 0 (.object "UnmarkedPages$Row") := ⟨("UnmarkedPages$Codes", uf_T uf_0, 4), rfl, by decide, rfl, rfl, rfl, by decide +kernel, uw_mem 269 rfl rfl⟩
set_option maxRecDepth 20000 in
theorem kQ_Cod_20 : u_lkQ "UnmarkedPages$Codes" 20 0 1 (.object "UnmarkedPages$Row") := ⟨("UnmarkedPages$Codes", uf_T uf_0, 4), rfl, by decide, rfl, rfl, rfl, by decide +kernel, uw_mem 271 rfl rfl⟩
set_option maxRecDepth 20000 in
theorem kQ_Cod_23 : u_lkQ "UnmarkedPages$Codes" 23 0 2 (.object "UnmarkedPages$Row") := ⟨("UnmarkedPages$Codes", uf_T uf_0, 4), rfl, by decide, rfl, rfl, rfl, by decide +kernel, uw_mem 273 rfl rfl⟩
set_option maxRecDepth 20000 in
theorem kQ_Cod_26 : u_lkQ "UnmarkedPages$Codes" 26 0 3 (.object "UnmarkedPages$Row") := ⟨("UnmarkedPages$Codes", uf_T uf_0, 4), rfl, by decide, rfl, rfl, rfl, by decide +kernel, uw_mem 275 rfl rfl⟩
set_option maxRecDepth 20000 in
theorem kQ_Kno_11 : u_lkQ "UnmarkedPages$Known" 11 2 0 (.array (.object "UnmarkedPages$FrontList")) := ⟨("UnmarkedPages$Known", uf_T uf_2, 4), rfl, by decide, rfl, rfl, rfl, by decide +kernel, uw_mem 246 rfl rfl⟩
set_option maxRecDepth 20000 in
theorem kQ_Kno_20 : u_lkQ "UnmarkedPages$Known" 20 2 1 (.object "UnmarkedPages$FrontList") := ⟨("UnmarkedPages$Known", uf_T uf_2, 4), rfl, by decide, rfl, rfl, rfl, by decide +kernel, uw_mem 247 rfl rfl⟩
set_option maxRecDepth 20000 in
theorem kQ_Kno_27 : u_lkQ "UnmarkedPages$Known" 27 2 2 (.object "UnmarkedPages$Row") := ⟨("UnmarkedPages$Known", uf_T uf_2, 4), rfl, by decide, rfl, rfl, rfl, by decide +kernel, uw_mem 249 rfl rfl⟩
set_option maxRecDepth 20000 in
theorem kQ_Kno_31 : u_lkQ "UnmarkedPages$Known" 31 2 3 (.object "UnmarkedPages$Row") := ⟨("UnmarkedPages$Known", uf_T uf_2, 4), rfl, by decide, rfl, rfl, rfl, by decide +kernel, uw_mem 250 rfl rfl⟩
set_option maxRecDepth 20000 in
theorem kF_Kno_84 : u_lkF "UnmarkedPages$Known" 84 3 4 (.object "UnmarkedPages$Row") := ⟨("UnmarkedPages$Page", uf_T uf_3, 8), rfl, by decide, rfl, by decide +kernel, Or.inl (uw_mem 121 rfl rfl)⟩
set_option maxRecDepth 20000 in
theorem kF_Kno_57 : u_lkF "UnmarkedPages$Known" 57 3 3 (.object "UnmarkedPages$Row") := ⟨("UnmarkedPages$Page", uf_T uf_3, 8), rfl, by decide, rfl, by decide +kernel, Or.inl (uw_mem 118 rfl rfl)⟩
set_option maxRecDepth 20000 in
theorem kF_Kno_76 : u_lkF "UnmarkedPages$Known" 76 3 6 (.object "UnmarkedPages$Row") := ⟨("UnmarkedPages$Page", uf_T uf_3, 8), rfl, by decide, rfl, by decide +kernel, Or.inl (uw_mem 126 rfl rfl)⟩
set_option maxRecDepth 20000 in
theorem kF_Kno_134 : u_lkF "UnmarkedPages$Known" 134 3 7 (.object "UnmarkedPages$Row") := ⟨("UnmarkedPages$Page", uf_T uf_3, 8), rfl, by decide, rfl, by decide +kernel, Or.inl (uw_mem 128 rfl rfl)⟩
set_option maxRecDepth 20000 in
theorem kF_Kno_139 : u_lkF "UnmarkedPages$Known" 139 3 0 (.object "UnmarkedPages$Row") := ⟨("UnmarkedPages$Page", uf_T uf_3, 8), rfl, by decide, rfl, by decide +kernel, Or.inl (uw_mem 106 rfl rfl)⟩
set_option maxRecDepth 20000 in
theorem kQ_Pag_14 : u_lkQ "UnmarkedPages$Page" 14 3 0 (.object "UnmarkedPages$Row") := ⟨("UnmarkedPages$Page", uf_T uf_3, 8), rfl, by decide, rfl, rfl, rfl, by decide +kernel, uw_mem 104 rfl rfl⟩
set_option maxRecDepth 20000 in
theorem kQ_Pag_20 : u_lkQ "UnmarkedPages$Page" 20 3 1 (.object "UnmarkedPages$Row") := ⟨("UnmarkedPages$Page", uf_T uf_3, 8), rfl, by decide, rfl, rfl, rfl, by decide +kernel, uw_mem 109 rfl rfl⟩
set_option maxRecDepth 20000 in
theorem kQ_Pag_23 : u_lkQ "UnmarkedPages$Page" 23 3 2 (.object "UnmarkedPages$Row") := ⟨("UnmarkedPages$Page", uf_T uf_3, 8), rfl, by decide, rfl, rfl, rfl, by decide +kernel, uw_mem 113 rfl rfl⟩
set_option maxRecDepth 20000 in
theorem kQ_Pag_26 : u_lkQ "UnmarkedPages$Page" 26 3 3 (.object "UnmarkedPages$Row") := ⟨("UnmarkedPages$Page", uf_T uf_3, 8), rfl, by decide, rfl, rfl, rfl, by decide +kernel, uw_mem 116 rfl rfl⟩
set_option maxRecDepth 20000 in
theorem kQ_Pag_29 : u_lkQ "UnmarkedPages$Page" 29 3 4 (.object "UnmarkedPages$Row") := ⟨("UnmarkedPages$Page", uf_T uf_3, 8), rfl, by decide, rfl, rfl, rfl, by decide +kernel, uw_mem 120 rfl rfl⟩
set_option maxRecDepth 20000 in
theorem kQ_Pag_32 : u_lkQ "UnmarkedPages$Page" 32 3 5 (.object "UnmarkedPages$Row") := ⟨("UnmarkedPages$Page", uf_T uf_3, 8), rfl, by decide, rfl, rfl, rfl, by decide +kernel, uw_mem 123 rfl rfl⟩
set_option maxRecDepth 20000 in
theorem kQ_Pag_35 : u_lkQ "UnmarkedPages$Page" 35 3 6 (.object "UnmarkedPages$Row") := ⟨("UnmarkedPages$Page", uf_T uf_3, 8), rfl, by decide, rfl, rfl, rfl, by decide +kernel, uw_mem 125 rfl rfl⟩
set_option maxRecDepth 20000 in
theorem kQ_Pag_38 : u_lkQ "UnmarkedPages$Page" 38 3 7 (.object "UnmarkedPages$Row") := ⟨("UnmarkedPages$Page", uf_T uf_3, 8), rfl, by decide, rfl, rfl, rfl, by decide +kernel, uw_mem 127 rfl rfl⟩
set_option maxRecDepth 20000 in
theorem kQ_Pth_14 : u_lkQ "UnmarkedPages$PathReader" 14 4 0 (.object "UnmarkedPages$Row") := ⟨("UnmarkedPages$PathReader", uf_T uf_4, 3), rfl, by decide, rfl, rfl, rfl, by decide +kernel, uw_mem 184 rfl rfl⟩
set_option maxRecDepth 20000 in
theorem kQ_Pth_20 : u_lkQ "UnmarkedPages$PathReader" 20 4 1 (.object "UnmarkedPages$Row") := ⟨("UnmarkedPages$PathReader", uf_T uf_4, 3), rfl, by decide, rfl, rfl, rfl, by decide +kernel, uw_mem 185 rfl rfl⟩
set_option maxRecDepth 20000 in
theorem kF_Pth_42 : u_lkF "UnmarkedPages$PathReader" 42 3 3 (.object "UnmarkedPages$Row") := ⟨("UnmarkedPages$Page", uf_T uf_3, 8), rfl, by decide, rfl, by decide +kernel, Or.inl (uw_mem 117 rfl rfl)⟩
set_option maxRecDepth 20000 in
theorem kF_Rea_38 : u_lkF "UnmarkedPages$Reader" 38 5 4 (.int) := ⟨("UnmarkedPages$Reader", uf_T uf_5, 7), rfl, by decide, rfl, by decide +kernel, Or.inl (uw_mem 158 rfl rfl)⟩
set_option maxRecDepth 20000 in
theorem kF_Rea_120 : u_lkF "UnmarkedPages$Reader" 120 3 7 (.object "UnmarkedPages$Row") := ⟨("UnmarkedPages$Page", uf_T uf_3, 8), rfl, by decide, rfl, by decide +kernel, Or.inl (uw_mem 129 rfl rfl)⟩
set_option maxRecDepth 20000 in
theorem kF_Mod_28 : u_lkF "UnmarkedPagesModel" 28 9 10 (.array .int) := ⟨("UnmarkedPagesModel", uf_T uf_9, 32), rfl, by decide, rfl, by decide +kernel, Or.inl (uw_mem 752 rfl rfl)⟩
set_option maxRecDepth 20000 in
theorem kQ_Rea_12 : u_lkQ "UnmarkedPages$Reader" 12 5 0 (.object "UnmarkedPages$Page") := ⟨("UnmarkedPages$Reader", uf_T uf_5, 7), rfl, by decide, rfl, rfl, rfl, by decide +kernel, uw_mem 150 rfl rfl⟩
set_option maxRecDepth 20000 in
theorem kQ_Rea_27 : u_lkQ "UnmarkedPages$Reader" 27 5 5 (.object "UnmarkedPages$Row") := ⟨("UnmarkedPages$Reader", uf_T uf_5, 7), rfl, by decide, rfl, rfl, rfl, by decide +kernel, uw_mem 159 rfl rfl⟩
set_option maxRecDepth 20000 in
theorem kQ_Rea_31 : u_lkQ "UnmarkedPages$Reader" 31 5 6 (.object "UnmarkedPages$Row") := ⟨("UnmarkedPages$Reader", uf_T uf_5, 7), rfl, by decide, rfl, rfl, rfl, by decide +kernel, uw_mem 160 rfl rfl⟩
set_option maxRecDepth 20000 in
theorem kF_Rea_130 : u_lkF "UnmarkedPages$Reader" 130 3 2 (.object "UnmarkedPages$Row") := ⟨("UnmarkedPages$Page", uf_T uf_3, 8), rfl, by decide, rfl, by decide +kernel, Or.inl (uw_mem 114 rfl rfl)⟩
set_option maxRecDepth 20000 in
theorem kQ_Sta_14 : u_lkQ "UnmarkedPages$State" 14 7 0 (.object "UnmarkedPages$Row") := ⟨("UnmarkedPages$State", uf_T uf_7, 3), rfl, by decide, rfl, rfl, rfl, by decide +kernel, uw_mem 209 rfl rfl⟩
set_option maxRecDepth 20000 in
theorem kQ_Sta_22 : u_lkQ "UnmarkedPages$State" 22 7 1 (.array (.object "UnmarkedPages$Page")) := ⟨("UnmarkedPages$State", uf_T uf_7, 3), rfl, by decide, rfl, rfl, rfl, by decide +kernel, uw_mem 210 rfl rfl⟩
set_option maxRecDepth 20000 in
theorem kP_Sta_34 : u_lkP "UnmarkedPages$State" 34 7 2 (.int) := ⟨("UnmarkedPages$State", uf_T uf_7, 3), rfl, by decide, rfl, rfl, by decide +kernel, uw_mem 211 rfl rfl⟩
set_option maxRecDepth 20000 in
theorem kF_Ump_217 : u_lkF "UnmarkedPages" 217 3 2 (.object "UnmarkedPages$Row") := ⟨("UnmarkedPages$Page", uf_T uf_3, 8), rfl, by decide, rfl, by decide +kernel, Or.inl (uw_mem 115 rfl rfl)⟩
set_option maxRecDepth 20000 in
theorem kF_Ump_220 : u_lkF "UnmarkedPages" 220 3 5 (.object "UnmarkedPages$Row") := ⟨("UnmarkedPages$Page", uf_T uf_3, 8), rfl, by decide, rfl, by decide +kernel, Or.inl (uw_mem 124 rfl rfl)⟩
set_option maxRecDepth 20000 in
theorem kF_Ump_226 : u_lkF "UnmarkedPages" 226 3 4 (.object "UnmarkedPages$Row") := ⟨("UnmarkedPages$Page", uf_T uf_3, 8), rfl, by decide, rfl, by decide +kernel, Or.inl (uw_mem 122 rfl rfl)⟩
set_option maxRecDepth 20000 in
theorem kF_Ump_235 : u_lkF "UnmarkedPages" 235 3 7 (.object "UnmarkedPages$Row") := ⟨("UnmarkedPages$Page", uf_T uf_3, 8), rfl, by decide, rfl, by decide +kernel, Or.inl (uw_mem 130 rfl rfl)⟩
set_option maxRecDepth 20000 in
theorem kF_Ump_28 : u_lkF "UnmarkedPages" 28 8 2 (.object "UnmarkedPages$PathReader") := ⟨("UnmarkedPages", uf_T uf_8, 12), rfl, by decide, rfl, by decide +kernel, Or.inl (uw_mem 288 rfl rfl)⟩
set_option maxRecDepth 20000 in
theorem kF_Ump_98 : u_lkF "UnmarkedPages" 98 7 2 (.int) := ⟨("UnmarkedPages$State", uf_T uf_7, 3), rfl, by decide, rfl, by decide +kernel, Or.inl (uw_mem 212 rfl rfl)⟩
set_option maxRecDepth 20000 in
theorem kP_Mod_124 : u_lkP "UnmarkedPagesModel" 124 9 12 (.int) := ⟨("UnmarkedPagesModel", uf_T uf_9, 32), rfl, by decide, rfl, rfl, by decide +kernel, uw_mem 754 rfl rfl⟩
set_option maxRecDepth 20000 in
theorem kF_Kno_47 : u_lkF "UnmarkedPages$Known" 47 0 0 (.object "UnmarkedPages$Row") := ⟨("UnmarkedPages$Codes", uf_T uf_0, 4), rfl, by decide, rfl, by decide +kernel, Or.inr ⟨"UnmarkedPages", by decide +kernel⟩⟩
set_option maxRecDepth 20000 in
theorem kF_Kno_50 : u_lkF "UnmarkedPages$Known" 50 3 1 (.object "UnmarkedPages$Row") := ⟨("UnmarkedPages$Page", uf_T uf_3, 8), rfl, by decide, rfl, by decide +kernel, Or.inl (uw_mem 110 rfl rfl)⟩
set_option maxRecDepth 20000 in
theorem kF_Kno_64 : u_lkF "UnmarkedPages$Known" 64 0 1 (.object "UnmarkedPages$Row") := ⟨("UnmarkedPages$Codes", uf_T uf_0, 4), rfl, by decide, rfl, by decide +kernel, Or.inr ⟨"UnmarkedPages", by decide +kernel⟩⟩
set_option maxRecDepth 20000 in
theorem kF_Kno_70 : u_lkF "UnmarkedPages$Known" 70 0 2 (.object "UnmarkedPages$Row") := ⟨("UnmarkedPages$Codes", uf_T uf_0, 4), rfl, by decide, rfl, by decide +kernel, Or.inr ⟨"UnmarkedPages", by decide +kernel⟩⟩
set_option maxRecDepth 20000 in
theorem kF_Kno_79 : u_lkF "UnmarkedPages$Known" 79 0 3 (.object "UnmarkedPages$Row") := ⟨("UnmarkedPages$Codes", uf_T uf_0, 4), rfl, by decide, rfl, by decide +kernel, Or.inr ⟨"UnmarkedPages", by decide +kernel⟩⟩
set_option maxRecDepth 20000 in
theorem kQ_Ump_14 : u_lkQ "UnmarkedPages" 14 8 0 (.object "UnmarkedPages$Row") := ⟨("UnmarkedPages", uf_T uf_8, 12), rfl, by decide, rfl, rfl, rfl, by decide +kernel, uw_mem 286 rfl rfl⟩
set_option maxRecDepth 20000 in
theorem kQ_Ump_21 : u_lkQ "UnmarkedPages" 21 8 1 (.object "UnmarkedPages$Reader") := ⟨("UnmarkedPages", uf_T uf_8, 12), rfl, by decide, rfl, rfl, rfl, by decide +kernel, uw_mem 287 rfl rfl⟩
set_option maxRecDepth 20000 in
theorem kQ_Ump_28 : u_lkQ "UnmarkedPages" 28 8 2 (.object "UnmarkedPages$PathReader") := ⟨("UnmarkedPages", uf_T uf_8, 12), rfl, by decide, rfl, rfl, rfl, by decide +kernel, uw_mem 288 rfl rfl⟩
set_option maxRecDepth 20000 in
theorem kQ_Ump_35 : u_lkQ "UnmarkedPages" 35 8 3 (.object "UnmarkedPages$State") := ⟨("UnmarkedPages", uf_T uf_8, 12), rfl, by decide, rfl, rfl, rfl, by decide +kernel, uw_mem 289 rfl rfl⟩
set_option maxRecDepth 20000 in
theorem kQ_Ump_39 : u_lkQ "UnmarkedPages" 39 8 4 (.array (.object "UnmarkedPages$State")) := ⟨("UnmarkedPages", uf_T uf_8, 12), rfl, by decide, rfl, rfl, rfl, by decide +kernel, uw_mem 290 rfl rfl⟩
set_option maxRecDepth 20000 in
theorem kQ_Ump_43 : u_lkQ "UnmarkedPages" 43 8 6 (.object "UnmarkedPages$State") := ⟨("UnmarkedPages", uf_T uf_8, 12), rfl, by decide, rfl, rfl, rfl, by decide +kernel, uw_mem 292 rfl rfl⟩
set_option maxRecDepth 20000 in
theorem kQ_Ump_49 : u_lkQ "UnmarkedPages" 49 8 8 (.object "UnmarkedPages$Known") := ⟨("UnmarkedPages", uf_T uf_8, 12), rfl, by decide, rfl, rfl, rfl, by decide +kernel, uw_mem 294 rfl rfl⟩
set_option maxRecDepth 20000 in
theorem kQ_Ump_55 : u_lkQ "UnmarkedPages" 55 8 9 (.array (.object "UnmarkedPages$Codes")) := ⟨("UnmarkedPages", uf_T uf_8, 12), rfl, by decide, rfl, rfl, rfl, by decide +kernel, uw_mem 295 rfl rfl⟩
set_option maxRecDepth 20000 in
theorem kQ_Ump_59 : u_lkQ "UnmarkedPages" 59 8 10 (.object "UnmarkedPages$Known") := ⟨("UnmarkedPages", uf_T uf_8, 12), rfl, by decide, rfl, rfl, rfl, by decide +kernel, uw_mem 296 rfl rfl⟩
set_option maxRecDepth 20000 in
theorem kQ_Ump_63 : u_lkQ "UnmarkedPages" 63 8 11 (.object "UnmarkedPages$Codes") := ⟨("UnmarkedPages", uf_T uf_8, 12), rfl, by decide, rfl, rfl, rfl, by decide +kernel, uw_mem 297 rfl rfl⟩
set_option maxRecDepth 20000 in
theorem kF_Ump_39 : u_lkF "UnmarkedPages" 39 8 4 (.array (.object "UnmarkedPages$State")) := ⟨("UnmarkedPages", uf_T uf_8, 12), rfl, by decide, rfl, by decide +kernel, Or.inl (uw_mem 290 rfl rfl)⟩
set_option maxRecDepth 20000 in
theorem kF_Ump_210 : u_lkF "UnmarkedPages" 210 2 1 (.object "UnmarkedPages$FrontList") := ⟨("UnmarkedPages$Known", uf_T uf_2, 4), rfl, by decide, rfl, by decide +kernel, Or.inl (uw_mem 248 rfl rfl)⟩
set_option maxRecDepth 20000 in
theorem kF_Ump_147 : u_lkF "UnmarkedPages" 147 8 5 (.int) := ⟨("UnmarkedPages", uf_T uf_8, 12), rfl, by decide, rfl, by decide +kernel, Or.inl (uw_mem 291 rfl rfl)⟩
set_option maxRecDepth 20000 in
theorem kF_Rea_45 : u_lkF "UnmarkedPages$Reader" 45 3 0 (.object "UnmarkedPages$Row") := ⟨("UnmarkedPages$Page", uf_T uf_3, 8), rfl, by decide, rfl, by decide +kernel, Or.inl (uw_mem 105 rfl rfl)⟩
set_option maxRecDepth 20000 in
theorem kF_Ump_43 : u_lkF "UnmarkedPages" 43 8 6 (.object "UnmarkedPages$State") := ⟨("UnmarkedPages", uf_T uf_8, 12), rfl, by decide, rfl, by decide +kernel, Or.inl (uw_mem 292 rfl rfl)⟩
set_option maxRecDepth 20000 in
theorem kP_Ump_154 : u_lkP "UnmarkedPages" 154 8 7 (.boolean) := ⟨("UnmarkedPages", uf_T uf_8, 12), rfl, by decide, rfl, rfl, by decide +kernel, uw_mem 293 rfl rfl⟩
set_option maxRecDepth 20000 in
theorem kP_Ump_147 : u_lkP "UnmarkedPages" 147 8 5 (.int) := ⟨("UnmarkedPages", uf_T uf_8, 12), rfl, by decide, rfl, rfl, by decide +kernel, uw_mem 291 rfl rfl⟩
set_option maxRecDepth 20000 in
theorem kF_Mod_79 : u_lkF "UnmarkedPagesModel" 79 9 17 (.int) := ⟨("UnmarkedPagesModel", uf_T uf_9, 32), rfl, by decide, rfl, by decide +kernel, Or.inl (uw_mem 759 rfl rfl)⟩
set_option maxRecDepth 20000 in
theorem kF_Mod_85 : u_lkF "UnmarkedPagesModel" 85 9 18 (.int) := ⟨("UnmarkedPagesModel", uf_T uf_9, 32), rfl, by decide, rfl, by decide +kernel, Or.inl (uw_mem 760 rfl rfl)⟩
set_option maxRecDepth 20000 in
theorem kF_Mod_88 : u_lkF "UnmarkedPagesModel" 88 9 19 (.int) := ⟨("UnmarkedPagesModel", uf_T uf_9, 32), rfl, by decide, rfl, by decide +kernel, Or.inl (uw_mem 761 rfl rfl)⟩
set_option maxRecDepth 20000 in
theorem kF_Ump_21 : u_lkF "UnmarkedPages" 21 8 1 (.object "UnmarkedPages$Reader") := ⟨("UnmarkedPages", uf_T uf_8, 12), rfl, by decide, rfl, by decide +kernel, Or.inl (uw_mem 287 rfl rfl)⟩
set_option maxRecDepth 20000 in
theorem kF_Ump_94 : u_lkF "UnmarkedPages" 94 5 1 (.int) := ⟨("UnmarkedPages$Reader", uf_T uf_5, 7), rfl, by decide, rfl, by decide +kernel, Or.inl (uw_mem 152 rfl rfl)⟩
set_option maxRecDepth 20000 in
theorem kF_Ump_105 : u_lkF "UnmarkedPages" 105 5 0 (.object "UnmarkedPages$Page") := ⟨("UnmarkedPages$Reader", uf_T uf_5, 7), rfl, by decide, rfl, by decide +kernel, Or.inl (uw_mem 151 rfl rfl)⟩
set_option maxRecDepth 20000 in
theorem kP_Ump_98 : u_lkP "UnmarkedPages" 98 7 2 (.int) := ⟨("UnmarkedPages$State", uf_T uf_7, 3), rfl, by decide, rfl, rfl, by decide +kernel, uw_mem 212 rfl rfl⟩
set_option maxRecDepth 20000 in
theorem kF_Ump_141 : u_lkF "UnmarkedPages" 141 5 2 (.int) := ⟨("UnmarkedPages$Reader", uf_T uf_5, 7), rfl, by decide, rfl, by decide +kernel, Or.inl (uw_mem 155 rfl rfl)⟩
set_option maxRecDepth 20000 in
theorem kF_Ump_144 : u_lkF "UnmarkedPages" 144 5 3 (.int) := ⟨("UnmarkedPages$Reader", uf_T uf_5, 7), rfl, by decide, rfl, by decide +kernel, Or.inl (uw_mem 156 rfl rfl)⟩
set_option maxRecDepth 20000 in
theorem kF_Ump_154 : u_lkF "UnmarkedPages" 154 8 7 (.boolean) := ⟨("UnmarkedPages", uf_T uf_8, 12), rfl, by decide, rfl, by decide +kernel, Or.inl (uw_mem 293 rfl rfl)⟩
set_option maxRecDepth 20000 in
theorem kF_Ump_59 : u_lkF "UnmarkedPages" 59 8 10 (.object "UnmarkedPages$Known") := ⟨("UnmarkedPages", uf_T uf_8, 12), rfl, by decide, rfl, by decide +kernel, Or.inl (uw_mem 296 rfl rfl)⟩
/-! what links: methods -/
def u_CV (own : String) (idx ci : Nat) (M : uM) (n : Nat) : Prop := u_MO M n ∧ Cond.methodLink own idx M.y ∈ uw_W ∧ Cond.instanceMethod M.y ∈ uw_W ∧ Cond.selects M.y.cls M.y M.y ∈ uw_W ∧ ∃ r : vw_C, u_cls[ci]? = some r ∧ r.1 = M.y.cls
def u_CS (own : String) (idx : Nat) (M : uM) (n : Nat) : Prop := u_MO M n ∧ (Cond.methodLink own idx M.y ∈ uw_W ∨ ∃ host, (own, idx, M.y, host) ∈ u_nestM) ∧ Cond.static M.y ∈ uw_W
def u_CI (own : String) (idx : Nat) (M : uM) (n : Nat) : Prop := u_MO M n ∧ (Cond.methodLink own idx M.y ∈ uw_W ∨ ∃ host, (own, idx, M.y, host) ∈ u_nestM) ∧ Cond.instanceMethod M.y ∈ uw_W ∧ M.ret = none ∧ M.y.name = "<init>"
set_option maxRecDepth 20000 in
theorem mo_Cod_rowAt : u_MO mCod_rowAt 1 := ⟨by decide, rfl, by decide, by decide, ⟨by decide, by decide⟩, by decide +kernel, uw_mem 584 rfl rfl, uw_mem 62 rfl rfl⟩
set_option maxRecDepth 20000 in
theorem mo_Cod_bitsOfCode : u_MO mCod_bitsOfCode 1 := ⟨by decide, rfl, by decide, by decide, ⟨by decide, by decide⟩, by decide +kernel, uw_mem 588 rfl rfl, uw_mem 62 rfl rfl⟩
set_option maxRecDepth 20000 in
theorem mo_Frl_size : u_MO mFrl_size 0 := ⟨by decide, rfl, by decide, by decide, ⟨by decide, by decide⟩, by decide +kernel, uw_mem 522 rfl rfl, uw_mem 61 rfl rfl⟩
set_option maxRecDepth 20000 in
theorem mo_Frl_clear : u_MO mFrl_clear 0 := ⟨by decide, rfl, by decide, by decide, ⟨by decide, by decide⟩, by decide +kernel, uw_mem 604 rfl rfl, uw_mem 61 rfl rfl⟩
set_option maxRecDepth 20000 in
theorem mo_Frl_at : u_MO mFrl_at 1 := ⟨by decide, rfl, by decide, by decide, ⟨by decide, by decide⟩, by decide +kernel, uw_mem 717 rfl rfl, uw_mem 61 rfl rfl⟩
set_option maxRecDepth 20000 in
theorem mo_Frl_placeOf : u_MO mFrl_placeOf 1 := ⟨by decide, rfl, by decide, by decide, ⟨by decide, by decide⟩, by decide +kernel, uw_mem 518 rfl rfl, uw_mem 61 rfl rfl⟩
set_option maxRecDepth 20000 in
theorem mo_Kno_namesIn : u_MO mKno_namesIn 1 := ⟨by decide, rfl, by decide, by decide, ⟨by decide, by decide⟩, by decide +kernel, uw_mem 514 rfl rfl, uw_mem 60 rfl rfl⟩
set_option maxRecDepth 20000 in
theorem mo_Rea_hasFault : u_MO mRea_hasFault 0 := ⟨by decide, rfl, by decide, by decide, ⟨by decide, by decide⟩, by decide +kernel, uw_mem 489 rfl rfl, uw_mem 56 rfl rfl⟩
set_option maxRecDepth 20000 in
theorem mo_Rea_tell : u_MO mRea_tell 3 := ⟨by decide, rfl, by decide, by decide, ⟨by decide, by decide⟩, by decide +kernel, uw_mem 419 rfl rfl, uw_mem 56 rfl rfl⟩
set_option maxRecDepth 20000 in
theorem mo_Row_size : u_MO mRow_size 0 := ⟨by decide, rfl, by decide, by decide, ⟨by decide, by decide⟩, by decide +kernel, uw_mem 402 rfl rfl, uw_mem 54 rfl rfl⟩
set_option maxRecDepth 20000 in
theorem mo_Row_clear : u_MO mRow_clear 0 := ⟨by decide, rfl, by decide, by decide, ⟨by decide, by decide⟩, by decide +kernel, uw_mem 397 rfl rfl, uw_mem 54 rfl rfl⟩
set_option maxRecDepth 20000 in
theorem mo_Row_at : u_MO mRow_at 1 := ⟨by decide, rfl, by decide, by decide, ⟨by decide, by decide⟩, by decide +kernel, uw_mem 337 rfl rfl, uw_mem 54 rfl rfl⟩
set_option maxRecDepth 20000 in
theorem mo_Row_add : u_MO mRow_add 1 := ⟨by decide, rfl, by decide, by decide, ⟨by decide, by decide⟩, by decide +kernel, uw_mem 407 rfl rfl, uw_mem 54 rfl rfl⟩
set_option maxRecDepth 20000 in
theorem mo_Row_put : u_MO mRow_put 2 := ⟨by decide, rfl, by decide, by decide, ⟨by decide, by decide⟩, by decide +kernel, uw_mem 373 rfl rfl, uw_mem 54 rfl rfl⟩
set_option maxRecDepth 20000 in
theorem mo_Row_fill : u_MO mRow_fill 1 := ⟨by decide, rfl, by decide, by decide, ⟨by decide, by decide⟩, by decide +kernel, uw_mem 207 rfl rfl, uw_mem 54 rfl rfl⟩
set_option maxRecDepth 20000 in
theorem mo_Row_last : u_MO mRow_last 0 := ⟨by decide, rfl, by decide, by decide, ⟨by decide, by decide⟩, by decide +kernel, uw_mem 438 rfl rfl, uw_mem 54 rfl rfl⟩
set_option maxRecDepth 20000 in
theorem mo_Row_removeLast : u_MO mRow_removeLast 0 := ⟨by decide, rfl, by decide, by decide, ⟨by decide, by decide⟩, by decide +kernel, uw_mem 447 rfl rfl, uw_mem 54 rfl rfl⟩
set_option maxRecDepth 20000 in
theorem mo_Row_placeOf : u_MO mRow_placeOf 1 := ⟨by decide, rfl, by decide, by decide, ⟨by decide, by decide⟩, by decide +kernel, uw_mem 703 rfl rfl, uw_mem 54 rfl rfl⟩
set_option maxRecDepth 20000 in
theorem mo_Row_countOf : u_MO mRow_countOf 1 := ⟨by decide, rfl, by decide, by decide, ⟨by decide, by decide⟩, by decide +kernel, uw_mem 381 rfl rfl, uw_mem 54 rfl rfl⟩
set_option maxRecDepth 20000 in
theorem mo_Sta_hasPage : u_MO mSta_hasPage 1 := ⟨by decide, rfl, by decide, by decide, ⟨by decide, by decide⟩, by decide +kernel, uw_mem 613 rfl rfl, uw_mem 59 rfl rfl⟩
set_option maxRecDepth 20000 in
theorem mo_Sta_pageAt : u_MO mSta_pageAt 1 := ⟨by decide, rfl, by decide, by decide, ⟨by decide, by decide⟩, by decide +kernel, uw_mem 356 rfl rfl, uw_mem 59 rfl rfl⟩
set_option maxRecDepth 20000 in
theorem mo_Sta_bringToFront : u_MO mSta_bringToFront 1 := ⟨by decide, rfl, by decide, by decide, ⟨by decide, by decide⟩, by decide +kernel, uw_mem 621 rfl rfl, uw_mem 59 rfl rfl⟩
set_option maxRecDepth 20000 in
theorem mo_Ump_codesOf : u_MO mUmp_codesOf 1 := ⟨by decide, rfl, by decide, by decide, ⟨by decide, by decide⟩, by decide +kernel, uw_mem 493 rfl rfl, uw_mem 53 rfl rfl⟩
set_option maxRecDepth 20000 in
theorem mo_Ump_isName : u_MO mUmp_isName 1 := ⟨by decide, rfl, by decide, by decide, ⟨by decide, by decide⟩, by decide +kernel, uw_mem 329 rfl rfl, uw_mem 53 rfl rfl⟩
set_option maxRecDepth 20000 in
theorem mo_Ump_isNameLetter : u_MO mUmp_isNameLetter 1 := ⟨by decide, rfl, by decide, by decide, ⟨by decide, by decide⟩, by decide +kernel, uw_mem 426 rfl rfl, uw_mem 53 rfl rfl⟩
set_option maxRecDepth 20000 in
theorem mo_Mod_in : u_MO mMod_in 3 := ⟨by decide, rfl, by decide, by decide, ⟨by decide, by decide⟩, by decide +kernel, uw_mem 849 rfl rfl, uw_mem 63 rfl rfl⟩
set_option maxRecDepth 20000 in
theorem mo_Mod_record : u_MO mMod_record 0 := ⟨by decide, rfl, by decide, by decide, ⟨by decide, by decide⟩, by decide +kernel, uw_mem 853 rfl rfl, uw_mem 63 rfl rfl⟩
set_option maxRecDepth 20000 in
theorem mo_Mod_box : u_MO mMod_box 2 := ⟨by decide, rfl, by decide, by decide, ⟨by decide, by decide⟩, by decide +kernel, uw_mem 885 rfl rfl, uw_mem 63 rfl rfl⟩
set_option maxRecDepth 20000 in
theorem mo_Mod_boxes : u_MO mMod_boxes 3 := ⟨by decide, rfl, by decide, by decide, ⟨by decide, by decide⟩, by decide +kernel, uw_mem 889 rfl rfl, uw_mem 63 rfl rfl⟩
set_option maxRecDepth 20000 in
theorem mo_Mod_fails : u_MO mMod_fails 3 := ⟨by decide, rfl, by decide, by decide, ⟨by decide, by decide⟩, by decide +kernel, uw_mem 881 rfl rfl, uw_mem 63 rfl rfl⟩
set_option maxRecDepth 20000 in
theorem mo_Mod_steps : u_MO mMod_steps 2 := ⟨by decide, rfl, by decide, by decide, ⟨by decide, by decide⟩, by decide +kernel, uw_mem 893 rfl rfl, uw_mem 63 rfl rfl⟩
set_option maxRecDepth 20000 in
theorem mo_Mod_rankOf : u_MO mMod_rankOf 3 := ⟨by decide, rfl, by decide, by decide, ⟨by decide, by decide⟩, by decide +kernel, uw_mem 912 rfl rfl, uw_mem 63 rfl rfl⟩
set_option maxRecDepth 20000 in
theorem mo_Mod_takesText : u_MO mMod_takesText 0 := ⟨by decide, rfl, by decide, by decide, ⟨by decide, by decide⟩, by decide +kernel, uw_mem 865 rfl rfl, uw_mem 63 rfl rfl⟩
set_option maxRecDepth 20000 in
theorem mo_Mod_forgets : u_MO mMod_forgets 0 := ⟨by decide, rfl, by decide, by decide, ⟨by decide, by decide⟩, by decide +kernel, uw_mem 920 rfl rfl, uw_mem 63 rfl rfl⟩
set_option maxRecDepth 20000 in
theorem mo_Mod_codes : u_MO mMod_codes 2 := ⟨by decide, rfl, by decide, by decide, ⟨by decide, by decide⟩, by decide +kernel, uw_mem 932 rfl rfl, uw_mem 63 rfl rfl⟩
set_option maxRecDepth 20000 in
theorem mo_Mod_isWord : u_MO mMod_isWord 3 := ⟨by decide, rfl, by decide, by decide, ⟨by decide, by decide⟩, by decide +kernel, uw_mem 948 rfl rfl, uw_mem 63 rfl rfl⟩
set_option maxRecDepth 20000 in
theorem mo_Mod_bitsOf : u_MO mMod_bitsOf 1 := ⟨by decide, rfl, by decide, by decide, ⟨by decide, by decide⟩, by decide +kernel, uw_mem 959 rfl rfl, uw_mem 63 rfl rfl⟩
set_option maxRecDepth 20000 in
theorem mo_Mod_rules : u_MO mMod_rules 0 := ⟨by decide, rfl, by decide, by decide, ⟨by decide, by decide⟩, by decide +kernel, uw_mem 857 rfl rfl, uw_mem 63 rfl rfl⟩
set_option maxRecDepth 20000 in
theorem mo_Mod_type : u_MO mMod_type 1 := ⟨by decide, rfl, by decide, by decide, ⟨by decide, by decide⟩, by decide +kernel, uw_mem 979 rfl rfl, uw_mem 63 rfl rfl⟩
set_option maxRecDepth 20000 in
theorem mo_Mod_clearText : u_MO mMod_clearText 0 := ⟨by decide, rfl, by decide, by decide, ⟨by decide, by decide⟩, by decide +kernel, uw_mem 983 rfl rfl, uw_mem 63 rfl rfl⟩
set_option maxRecDepth 20000 in
theorem mo_Mod_undo : u_MO mMod_undo 0 := ⟨by decide, rfl, by decide, by decide, ⟨by decide, by decide⟩, by decide +kernel, uw_mem 991 rfl rfl, uw_mem 63 rfl rfl⟩
set_option maxRecDepth 20000 in
theorem mo_Mod_keep : u_MO mMod_keep 0 := ⟨by decide, rfl, by decide, by decide, ⟨by decide, by decide⟩, by decide +kernel, uw_mem 995 rfl rfl, uw_mem 63 rfl rfl⟩
set_option maxRecDepth 20000 in
theorem mo_Int_bitCount : u_MO mInt_bitCount 1 := ⟨by decide, rfl, by decide, by decide, ⟨by decide, by decide⟩, by decide +kernel, uw_mem 558 rfl rfl, uw_mem 64 rfl rfl⟩
set_option maxRecDepth 20000 in
theorem mo_Cod_clear : u_MO mCod_clear 0 := ⟨by decide, rfl, by decide, by decide, ⟨by decide, by decide⟩, by decide +kernel, uw_mem 502 rfl rfl, uw_mem 62 rfl rfl⟩
set_option maxRecDepth 20000 in
theorem mo_Cod_bitsOfRow : u_MO mCod_bitsOfRow 1 := ⟨by decide, rfl, by decide, by decide, ⟨by decide, by decide⟩, by decide +kernel, uw_mem 579 rfl rfl, uw_mem 62 rfl rfl⟩
set_option maxRecDepth 20000 in
theorem mo_Frl_init : u_MO mFrl_init 1 := ⟨by decide, rfl, by decide, by decide, ⟨by decide, by decide⟩, by decide +kernel, uw_mem 232 rfl rfl, uw_mem 61 rfl rfl⟩
set_option maxRecDepth 20000 in
theorem mo_Frl_meet : u_MO mFrl_meet 1 := ⟨by decide, rfl, by decide, by decide, ⟨by decide, by decide⟩, by decide +kernel, uw_mem 527 rfl rfl, uw_mem 61 rfl rfl⟩
set_option maxRecDepth 20000 in
theorem mo_Kno_forget : u_MO mKno_forget 0 := ⟨by decide, rfl, by decide, by decide, ⟨by decide, by decide⟩, by decide +kernel, uw_mem 600 rfl rfl, uw_mem 60 rfl rfl⟩
set_option maxRecDepth 20000 in
theorem mo_Kno_valueOf : u_MO mKno_valueOf 2 := ⟨by decide, rfl, by decide, by decide, ⟨by decide, by decide⟩, by decide +kernel, uw_mem 554 rfl rfl, uw_mem 60 rfl rfl⟩
set_option maxRecDepth 20000 in
theorem mo_Pag_clear : u_MO mPag_clear 0 := ⟨by decide, rfl, by decide, by decide, ⟨by decide, by decide⟩, by decide +kernel, uw_mem 393 rfl rfl, uw_mem 57 rfl rfl⟩
set_option maxRecDepth 20000 in
theorem mo_Pag_addBox : u_MO mPag_addBox 3 := ⟨by decide, rfl, by decide, by decide, ⟨by decide, by decide⟩, by decide +kernel, uw_mem 451 rfl rfl, uw_mem 57 rfl rfl⟩
set_option maxRecDepth 20000 in
theorem mo_Pag_addWord : u_MO mPag_addWord 2 := ⟨by decide, rfl, by decide, by decide, ⟨by decide, by decide⟩, by decide +kernel, uw_mem 466 rfl rfl, uw_mem 57 rfl rfl⟩
set_option maxRecDepth 20000 in
theorem mo_Pag_lengthenWord : u_MO mPag_lengthenWord 0 := ⟨by decide, rfl, by decide, by decide, ⟨by decide, by decide⟩, by decide +kernel, uw_mem 470 rfl rfl, uw_mem 57 rfl rfl⟩
set_option maxRecDepth 20000 in
theorem mo_Pag_keyOfNote : u_MO mPag_keyOfNote 2 := ⟨by decide, rfl, by decide, by decide, ⟨by decide, by decide⟩, by decide +kernel, uw_mem 540 rfl rfl, uw_mem 57 rfl rfl⟩
set_option maxRecDepth 20000 in
theorem mo_Pag_boxInside : u_MO mPag_boxInside 3 := ⟨by decide, rfl, by decide, by decide, ⟨by decide, by decide⟩, by decide +kernel, uw_mem 693 rfl rfl, uw_mem 57 rfl rfl⟩
set_option maxRecDepth 20000 in
theorem mo_Pth_partCount : u_MO mPth_partCount 0 := ⟨by decide, rfl, by decide, by decide, ⟨by decide, by decide⟩, by decide +kernel, uw_mem 707 rfl rfl, uw_mem 58 rfl rfl⟩
set_option maxRecDepth 20000 in
theorem mo_Pth_takes : u_MO mPth_takes 1 := ⟨by decide, rfl, by decide, by decide, ⟨by decide, by decide⟩, by decide +kernel, uw_mem 682 rfl rfl, uw_mem 58 rfl rfl⟩
set_option maxRecDepth 20000 in
theorem mo_Rea_expect : u_MO mRea_expect 3 := ⟨by decide, rfl, by decide, by decide, ⟨by decide, by decide⟩, by decide +kernel, uw_mem 415 rfl rfl, uw_mem 56 rfl rfl⟩
set_option maxRecDepth 20000 in
theorem mo_Rea_takeKey : u_MO mRea_takeKey 2 := ⟨by decide, rfl, by decide, by decide, ⟨by decide, by decide⟩, by decide +kernel, uw_mem 457 rfl rfl, uw_mem 56 rfl rfl⟩
set_option maxRecDepth 20000 in
theorem mo_Rea_latestName : u_MO mRea_latestName 0 := ⟨by decide, rfl, by decide, by decide, ⟨by decide, by decide⟩, by decide +kernel, uw_mem 434 rfl rfl, uw_mem 56 rfl rfl⟩
set_option maxRecDepth 20000 in
theorem mo_Rea_close : u_MO mRea_close 1 := ⟨by decide, rfl, by decide, by decide, ⟨by decide, by decide⟩, by decide +kernel, uw_mem 443 rfl rfl, uw_mem 56 rfl rfl⟩
set_option maxRecDepth 20000 in
theorem mo_Row_init : u_MO mRow_init 1 := ⟨by decide, rfl, by decide, by decide, ⟨by decide, by decide⟩, by decide +kernel, uw_mem 77 rfl rfl, uw_mem 54 rfl rfl⟩
set_option maxRecDepth 20000 in
theorem mo_Row_become : u_MO mRow_become 1 := ⟨by decide, rfl, by decide, by decide, ⟨by decide, by decide⟩, by decide +kernel, uw_mem 349 rfl rfl, uw_mem 54 rfl rfl⟩
set_option maxRecDepth 20000 in
theorem mo_Sta_ends : u_MO mSta_ends 2 := ⟨by decide, rfl, by decide, by decide, ⟨by decide, by decide⟩, by decide +kernel, uw_mem 333 rfl rfl, uw_mem 59 rfl rfl⟩
set_option maxRecDepth 20000 in
theorem mo_Sta_setEnds : u_MO mSta_setEnds 3 := ⟨by decide, rfl, by decide, by decide, ⟨by decide, by decide⟩, by decide +kernel, uw_mem 369 rfl rfl, uw_mem 59 rfl rfl⟩
set_option maxRecDepth 20000 in
theorem mo_Sta_ruleCount : u_MO mSta_ruleCount 0 := ⟨by decide, rfl, by decide, by decide, ⟨by decide, by decide⟩, by decide +kernel, uw_mem 377 rfl rfl, uw_mem 59 rfl rfl⟩
set_option maxRecDepth 20000 in
theorem mo_Sta_letterCount : u_MO mSta_letterCount 0 := ⟨by decide, rfl, by decide, by decide, ⟨by decide, by decide⟩, by decide +kernel, uw_mem 730 rfl rfl, uw_mem 59 rfl rfl⟩
set_option maxRecDepth 20000 in
theorem mo_Sta_stepCount : u_MO mSta_stepCount 1 := ⟨by decide, rfl, by decide, by decide, ⟨by decide, by decide⟩, by decide +kernel, uw_mem 735 rfl rfl, uw_mem 59 rfl rfl⟩
set_option maxRecDepth 20000 in
theorem mo_Ump_type : u_MO mUmp_type 1 := ⟨by decide, rfl, by decide, by decide, ⟨by decide, by decide⟩, by decide +kernel, uw_mem 625 rfl rfl, uw_mem 53 rfl rfl⟩
set_option maxRecDepth 20000 in
theorem mo_Ump_clearText : u_MO mUmp_clearText 0 := ⟨by decide, rfl, by decide, by decide, ⟨by decide, by decide⟩, by decide +kernel, uw_mem 631 rfl rfl, uw_mem 53 rfl rfl⟩
set_option maxRecDepth 20000 in
theorem mo_Ump_charAt : u_MO mUmp_charAt 2 := ⟨by decide, rfl, by decide, by decide, ⟨by decide, by decide⟩, by decide +kernel, uw_mem 652 rfl rfl, uw_mem 53 rfl rfl⟩
set_option maxRecDepth 20000 in
theorem mo_Ump_code : u_MO mUmp_code 3 := ⟨by decide, rfl, by decide, by decide, ⟨by decide, by decide⟩, by decide +kernel, uw_mem 657 rfl rfl, uw_mem 53 rfl rfl⟩
set_option maxRecDepth 20000 in
theorem mo_Ump_known : u_MO mUmp_known 2 := ⟨by decide, rfl, by decide, by decide, ⟨by decide, by decide⟩, by decide +kernel, uw_mem 711 rfl rfl, uw_mem 53 rfl rfl⟩
set_option maxRecDepth 20000 in
theorem mo_Mod_init : u_MO mMod_init 0 := ⟨by decide, rfl, by decide, by decide, ⟨by decide, by decide⟩, by decide +kernel, uw_mem 740 rfl rfl, uw_mem 63 rfl rfl⟩
set_option maxRecDepth 20000 in
theorem mo_Mod_no : u_MO mMod_no 1 := ⟨by decide, rfl, by decide, by decide, ⟨by decide, by decide⟩, by decide +kernel, uw_mem 971 rfl rfl, uw_mem 63 rfl rfl⟩
set_option maxRecDepth 20000 in
theorem mo_Mod_noName : u_MO mMod_noName 1 := ⟨by decide, rfl, by decide, by decide, ⟨by decide, by decide⟩, by decide +kernel, uw_mem 846 rfl rfl, uw_mem 63 rfl rfl⟩
set_option maxRecDepth 20000 in
theorem mo_Mod_isAt : u_MO mMod_isAt 3 := ⟨by decide, rfl, by decide, by decide, ⟨by decide, by decide⟩, by decide +kernel, uw_mem 873 rfl rfl, uw_mem 63 rfl rfl⟩
set_option maxRecDepth 20000 in
theorem mo_Mod_implies : u_MO mMod_implies 2 := ⟨by decide, rfl, by decide, by decide, ⟨by decide, by decide⟩, by decide +kernel, uw_mem 901 rfl rfl, uw_mem 63 rfl rfl⟩
set_option maxRecDepth 20000 in
theorem mo_Mod_codesName : u_MO mMod_codesName 1 := ⟨by decide, rfl, by decide, by decide, ⟨by decide, by decide⟩, by decide +kernel, uw_mem 936 rfl rfl, uw_mem 63 rfl rfl⟩
set_option maxRecDepth 20000 in
theorem mo_Mod_codesNotes : u_MO mMod_codesNotes 1 := ⟨by decide, rfl, by decide, by decide, ⟨by decide, by decide⟩, by decide +kernel, uw_mem 940 rfl rfl, uw_mem 63 rfl rfl⟩
set_option maxRecDepth 20000 in
theorem mo_Mod_codesWord : u_MO mMod_codesWord 2 := ⟨by decide, rfl, by decide, by decide, ⟨by decide, by decide⟩, by decide +kernel, uw_mem 944 rfl rfl, uw_mem 63 rfl rfl⟩
set_option maxRecDepth 20000 in
theorem mo_Mod_rowBits : u_MO mMod_rowBits 1 := ⟨by decide, rfl, by decide, by decide, ⟨by decide, by decide⟩, by decide +kernel, uw_mem 956 rfl rfl, uw_mem 63 rfl rfl⟩
set_option maxRecDepth 20000 in
theorem mo_Mod_unpackLast : u_MO mMod_unpackLast 0 := ⟨by decide, rfl, by decide, by decide, ⟨by decide, by decide⟩, by decide +kernel, uw_mem 963 rfl rfl, uw_mem 63 rfl rfl⟩
set_option maxRecDepth 20000 in
theorem mo_Mod_restore : u_MO mMod_restore 0 := ⟨by decide, rfl, by decide, by decide, ⟨by decide, by decide⟩, by decide +kernel, uw_mem 999 rfl rfl, uw_mem 63 rfl rfl⟩
set_option maxRecDepth 20000 in
theorem mo_Mod_partsOfText : u_MO mMod_partsOfText 0 := ⟨by decide, rfl, by decide, by decide, ⟨by decide, by decide⟩, by decide +kernel, uw_mem 1023 rfl rfl, uw_mem 63 rfl rfl⟩
set_option maxRecDepth 20000 in
theorem mo_Mod_inner : u_MO mMod_inner 3 := ⟨by decide, rfl, by decide, by decide, ⟨by decide, by decide⟩, by decide +kernel, uw_mem 1027 rfl rfl, uw_mem 63 rfl rfl⟩
set_option maxRecDepth 20000 in
theorem mo_Cod_init : u_MO mCod_init 0 := ⟨by decide, rfl, by decide, by decide, ⟨by decide, by decide⟩, by decide +kernel, uw_mem 265 rfl rfl, uw_mem 62 rfl rfl⟩
set_option maxRecDepth 20000 in
theorem mo_Cod_bitsOfAll : u_MO mCod_bitsOfAll 0 := ⟨by decide, rfl, by decide, by decide, ⟨by decide, by decide⟩, by decide +kernel, uw_mem 575 rfl rfl, uw_mem 62 rfl rfl⟩
set_option maxRecDepth 20000 in
theorem mo_Kno_init : u_MO mKno_init 0 := ⟨by decide, rfl, by decide, by decide, ⟨by decide, by decide⟩, by decide +kernel, uw_mem 225 rfl rfl, uw_mem 60 rfl rfl⟩
set_option maxRecDepth 20000 in
theorem mo_Kno_takeName : u_MO mKno_takeName 3 := ⟨by decide, rfl, by decide, by decide, ⟨by decide, by decide⟩, by decide +kernel, uw_mem 509 rfl rfl, uw_mem 60 rfl rfl⟩
set_option maxRecDepth 20000 in
theorem mo_Kno_takeValue : u_MO mKno_takeValue 4 := ⟨by decide, rfl, by decide, by decide, ⟨by decide, by decide⟩, by decide +kernel, uw_mem 550 rfl rfl, uw_mem 60 rfl rfl⟩
set_option maxRecDepth 20000 in
theorem mo_Kno_takeWord : u_MO mKno_takeWord 3 := ⟨by decide, rfl, by decide, by decide, ⟨by decide, by decide⟩, by decide +kernel, uw_mem 569 rfl rfl, uw_mem 60 rfl rfl⟩
set_option maxRecDepth 20000 in
theorem mo_Pag_init : u_MO mPag_init 0 := ⟨by decide, rfl, by decide, by decide, ⟨by decide, by decide⟩, by decide +kernel, uw_mem 100 rfl rfl, uw_mem 57 rfl rfl⟩
set_option maxRecDepth 20000 in
theorem mo_Pag_become : u_MO mPag_become 1 := ⟨by decide, rfl, by decide, by decide, ⟨by decide, by decide⟩, by decide +kernel, uw_mem 364 rfl rfl, uw_mem 57 rfl rfl⟩
set_option maxRecDepth 20000 in
theorem mo_Pag_valueOfKey : u_MO mPag_valueOfKey 2 := ⟨by decide, rfl, by decide, by decide, ⟨by decide, by decide⟩, by decide +kernel, uw_mem 546 rfl rfl, uw_mem 57 rfl rfl⟩
set_option maxRecDepth 20000 in
theorem mo_Pag_keySet : u_MO mPag_keySet 1 := ⟨by decide, rfl, by decide, by decide, ⟨by decide, by decide⟩, by decide +kernel, uw_mem 536 rfl rfl, uw_mem 57 rfl rfl⟩
set_option maxRecDepth 20000 in
theorem mo_Pag_orderOfKeys : u_MO mPag_orderOfKeys 2 := ⟨by decide, rfl, by decide, by decide, ⟨by decide, by decide⟩, by decide +kernel, uw_mem 565 rfl rfl, uw_mem 57 rfl rfl⟩
set_option maxRecDepth 20000 in
theorem mo_Pth_init : u_MO mPth_init 0 := ⟨by decide, rfl, by decide, by decide, ⟨by decide, by decide⟩, by decide +kernel, uw_mem 180 rfl rfl, uw_mem 58 rfl rfl⟩
set_option maxRecDepth 20000 in
theorem mo_Pth_readFault : u_MO mPth_readFault 1 := ⟨by decide, rfl, by decide, by decide, ⟨by decide, by decide⟩, by decide +kernel, uw_mem 675 rfl rfl, uw_mem 58 rfl rfl⟩
set_option maxRecDepth 20000 in
theorem mo_Pth_boxIn : u_MO mPth_boxIn 1 := ⟨by decide, rfl, by decide, by decide, ⟨by decide, by decide⟩, by decide +kernel, uw_mem 689 rfl rfl, uw_mem 58 rfl rfl⟩
set_option maxRecDepth 20000 in
theorem mo_Rea_openBox : u_MO mRea_openBox 3 := ⟨by decide, rfl, by decide, by decide, ⟨by decide, by decide⟩, by decide +kernel, uw_mem 430 rfl rfl, uw_mem 56 rfl rfl⟩
set_option maxRecDepth 20000 in
theorem mo_Rea_takeInBox : u_MO mRea_takeInBox 2 := ⟨by decide, rfl, by decide, by decide, ⟨by decide, by decide⟩, by decide +kernel, uw_mem 462 rfl rfl, uw_mem 56 rfl rfl⟩
set_option maxRecDepth 20000 in
theorem mo_Rea_takeClosingEnd : u_MO mRea_takeClosingEnd 2 := ⟨by decide, rfl, by decide, by decide, ⟨by decide, by decide⟩, by decide +kernel, uw_mem 485 rfl rfl, uw_mem 56 rfl rfl⟩
set_option maxRecDepth 20000 in
theorem mo_Rea_isEndedByClosing : u_MO mRea_isEndedByClosing 2 := ⟨by decide, rfl, by decide, by decide, ⟨by decide, by decide⟩, by decide +kernel, uw_mem 481 rfl rfl, uw_mem 56 rfl rfl⟩
set_option maxRecDepth 20000 in
theorem mo_Ump_latest : u_MO mUmp_latest 2 := ⟨by decide, rfl, by decide, by decide, ⟨by decide, by decide⟩, by decide +kernel, uw_mem 721 rfl rfl, uw_mem 53 rfl rfl⟩
set_option maxRecDepth 20000 in
theorem mo_Mod_readNotes : u_MO mMod_readNotes 2 := ⟨by decide, rfl, by decide, by decide, ⟨by decide, by decide⟩, by decide +kernel, uw_mem 909 rfl rfl, uw_mem 63 rfl rfl⟩
set_option maxRecDepth 20000 in
theorem mo_Mod_closes : u_MO mMod_closes 1 := ⟨by decide, rfl, by decide, by decide, ⟨by decide, by decide⟩, by decide +kernel, uw_mem 897 rfl rfl, uw_mem 63 rfl rfl⟩
set_option maxRecDepth 20000 in
theorem mo_Mod_readWord : u_MO mMod_readWord 1 := ⟨by decide, rfl, by decide, by decide, ⟨by decide, by decide⟩, by decide +kernel, uw_mem 877 rfl rfl, uw_mem 63 rfl rfl⟩
set_option maxRecDepth 20000 in
theorem mo_Mod_packs : u_MO mMod_packs 0 := ⟨by decide, rfl, by decide, by decide, ⟨by decide, by decide⟩, by decide +kernel, uw_mem 928 rfl rfl, uw_mem 63 rfl rfl⟩
set_option maxRecDepth 20000 in
theorem mo_Mod_pageBits : u_MO mMod_pageBits 0 := ⟨by decide, rfl, by decide, by decide, ⟨by decide, by decide⟩, by decide +kernel, uw_mem 952 rfl rfl, uw_mem 63 rfl rfl⟩
set_option maxRecDepth 20000 in
theorem mo_Mod_rule : u_MO mMod_rule 3 := ⟨by decide, rfl, by decide, by decide, ⟨by decide, by decide⟩, by decide +kernel, uw_mem 843 rfl rfl, uw_mem 63 rfl rfl⟩
set_option maxRecDepth 20000 in
theorem mo_Mod_charAt : u_MO mMod_charAt 2 := ⟨by decide, rfl, by decide, by decide, ⟨by decide, by decide⟩, by decide +kernel, uw_mem 1003 rfl rfl, uw_mem 63 rfl rfl⟩
set_option maxRecDepth 20000 in
theorem mo_Kno_takeNotes : u_MO mKno_takeNotes 3 := ⟨by decide, rfl, by decide, by decide, ⟨by decide, by decide⟩, by decide +kernel, uw_mem 532 rfl rfl, uw_mem 60 rfl rfl⟩
set_option maxRecDepth 20000 in
theorem mo_Rea_init : u_MO mRea_init 0 := ⟨by decide, rfl, by decide, by decide, ⟨by decide, by decide⟩, by decide +kernel, uw_mem 94 rfl rfl, uw_mem 56 rfl rfl⟩
set_option maxRecDepth 20000 in
theorem mo_Rea_takeBehindMark : u_MO mRea_takeBehindMark 3 := ⟨by decide, rfl, by decide, by decide, ⟨by decide, by decide⟩, by decide +kernel, uw_mem 423 rfl rfl, uw_mem 56 rfl rfl⟩
set_option maxRecDepth 20000 in
theorem mo_Rea_takeClosingName : u_MO mRea_takeClosingName 3 := ⟨by decide, rfl, by decide, by decide, ⟨by decide, by decide⟩, by decide +kernel, uw_mem 477 rfl rfl, uw_mem 56 rfl rfl⟩
set_option maxRecDepth 20000 in
theorem mo_Sta_init : u_MO mSta_init 0 := ⟨by decide, rfl, by decide, by decide, ⟨by decide, by decide⟩, by decide +kernel, uw_mem 198 rfl rfl, uw_mem 59 rfl rfl⟩
set_option maxRecDepth 20000 in
theorem mo_Sta_addPage : u_MO mSta_addPage 1 := ⟨by decide, rfl, by decide, by decide, ⟨by decide, by decide⟩, by decide +kernel, uw_mem 360 rfl rfl, uw_mem 59 rfl rfl⟩
set_option maxRecDepth 20000 in
theorem mo_Ump_bits : u_MO mUmp_bits 2 := ⟨by decide, rfl, by decide, by decide, ⟨by decide, by decide⟩, by decide +kernel, uw_mem 662 rfl rfl, uw_mem 53 rfl rfl⟩
set_option maxRecDepth 20000 in
theorem mo_Ump_toldOfBox : u_MO mUmp_toldOfBox 3 := ⟨by decide, rfl, by decide, by decide, ⟨by decide, by decide⟩, by decide +kernel, uw_mem 697 rfl rfl, uw_mem 53 rfl rfl⟩
set_option maxRecDepth 20000 in
theorem mo_Ump_bitsOfAllPages : u_MO mUmp_bitsOfAllPages 0 := ⟨by decide, rfl, by decide, by decide, ⟨by decide, by decide⟩, by decide +kernel, uw_mem 617 rfl rfl, uw_mem 53 rfl rfl⟩
set_option maxRecDepth 20000 in
theorem mo_Mod_opens : u_MO mMod_opens 1 := ⟨by decide, rfl, by decide, by decide, ⟨by decide, by decide⟩, by decide +kernel, uw_mem 905 rfl rfl, uw_mem 63 rfl rfl⟩
set_option maxRecDepth 20000 in
theorem mo_Kno_take : u_MO mKno_take 2 := ⟨by decide, rfl, by decide, by decide, ⟨by decide, by decide⟩, by decide +kernel, uw_mem 498 rfl rfl, uw_mem 60 rfl rfl⟩
set_option maxRecDepth 20000 in
theorem mo_Rea_take : u_MO mRea_take 3 := ⟨by decide, rfl, by decide, by decide, ⟨by decide, by decide⟩, by decide +kernel, uw_mem 411 rfl rfl, uw_mem 56 rfl rfl⟩
set_option maxRecDepth 20000 in
theorem mo_Sta_become : u_MO mSta_become 1 := ⟨by decide, rfl, by decide, by decide, ⟨by decide, by decide⟩, by decide +kernel, uw_mem 345 rfl rfl, uw_mem 59 rfl rfl⟩
set_option maxRecDepth 20000 in
theorem mo_Ump_init : u_MO mUmp_init 0 := ⟨by decide, rfl, by decide, by decide, ⟨by decide, by decide⟩, by decide +kernel, uw_mem 69 rfl rfl, uw_mem 53 rfl rfl⟩
set_option maxRecDepth 20000 in
theorem mo_Ump_path : u_MO mUmp_path 2 := ⟨by decide, rfl, by decide, by decide, ⟨by decide, by decide⟩, by decide +kernel, uw_mem 671 rfl rfl, uw_mem 53 rfl rfl⟩
set_option maxRecDepth 20000 in
theorem mo_Ump_count : u_MO mUmp_count 1 := ⟨by decide, rfl, by decide, by decide, ⟨by decide, by decide⟩, by decide +kernel, uw_mem 726 rfl rfl, uw_mem 53 rfl rfl⟩
set_option maxRecDepth 20000 in
theorem mo_Mod_isPage : u_MO mMod_isPage 0 := ⟨by decide, rfl, by decide, by decide, ⟨by decide, by decide⟩, by decide +kernel, uw_mem 869 rfl rfl, uw_mem 63 rfl rfl⟩
set_option maxRecDepth 20000 in
theorem mo_Rea_read : u_MO mRea_read 2 := ⟨by decide, rfl, by decide, by decide, ⟨by decide, by decide⟩, by decide +kernel, uw_mem 389 rfl rfl, uw_mem 56 rfl rfl⟩
set_option maxRecDepth 20000 in
theorem mo_Ump_keep : u_MO mUmp_keep 0 := ⟨by decide, rfl, by decide, by decide, ⟨by decide, by decide⟩, by decide +kernel, uw_mem 644 rfl rfl, uw_mem 53 rfl rfl⟩
set_option maxRecDepth 20000 in
theorem mo_Ump_recordState : u_MO mUmp_recordState 0 := ⟨by decide, rfl, by decide, by decide, ⟨by decide, by decide⟩, by decide +kernel, uw_mem 341 rfl rfl, uw_mem 53 rfl rfl⟩
set_option maxRecDepth 20000 in
theorem mo_Ump_packAnew : u_MO mUmp_packAnew 0 := ⟨by decide, rfl, by decide, by decide, ⟨by decide, by decide⟩, by decide +kernel, uw_mem 596 rfl rfl, uw_mem 53 rfl rfl⟩
set_option maxRecDepth 20000 in
theorem mo_Mod_takesPage : u_MO mMod_takesPage 1 := ⟨by decide, rfl, by decide, by decide, ⟨by decide, by decide⟩, by decide +kernel, uw_mem 924 rfl rfl, uw_mem 63 rfl rfl⟩
set_option maxRecDepth 20000 in
theorem mo_Mod_fault : u_MO mMod_fault 1 := ⟨by decide, rfl, by decide, by decide, ⟨by decide, by decide⟩, by decide +kernel, uw_mem 987 rfl rfl, uw_mem 63 rfl rfl⟩
set_option maxRecDepth 20000 in
theorem mo_Ump_rule : u_MO mUmp_rule 3 := ⟨by decide, rfl, by decide, by decide, ⟨by decide, by decide⟩, by decide +kernel, uw_mem 326 rfl rfl, uw_mem 53 rfl rfl⟩
set_option maxRecDepth 20000 in
theorem mo_Ump_pack : u_MO mUmp_pack 0 := ⟨by decide, rfl, by decide, by decide, ⟨by decide, by decide⟩, by decide +kernel, uw_mem 385 rfl rfl, uw_mem 53 rfl rfl⟩
set_option maxRecDepth 20000 in
theorem mo_Ump_unpackLast : u_MO mUmp_unpackLast 0 := ⟨by decide, rfl, by decide, by decide, ⟨by decide, by decide⟩, by decide +kernel, uw_mem 592 rfl rfl, uw_mem 53 rfl rfl⟩
set_option maxRecDepth 20000 in
theorem mo_Ump_first : u_MO mUmp_first 1 := ⟨by decide, rfl, by decide, by decide, ⟨by decide, by decide⟩, by decide +kernel, uw_mem 609 rfl rfl, uw_mem 53 rfl rfl⟩
set_option maxRecDepth 20000 in
theorem mo_Ump_fault : u_MO mUmp_fault 1 := ⟨by decide, rfl, by decide, by decide, ⟨by decide, by decide⟩, by decide +kernel, uw_mem 636 rfl rfl, uw_mem 53 rfl rfl⟩
set_option maxRecDepth 20000 in
theorem mo_Ump_undo : u_MO mUmp_undo 0 := ⟨by decide, rfl, by decide, by decide, ⟨by decide, by decide⟩, by decide +kernel, uw_mem 640 rfl rfl, uw_mem 53 rfl rfl⟩
set_option maxRecDepth 20000 in
theorem mo_Ump_restore : u_MO mUmp_restore 0 := ⟨by decide, rfl, by decide, by decide, ⟨by decide, by decide⟩, by decide +kernel, uw_mem 648 rfl rfl, uw_mem 53 rfl rfl⟩
set_option maxRecDepth 20000 in
theorem mo_Ump_wouldTake : u_MO mUmp_wouldTake 1 := ⟨by decide, rfl, by decide, by decide, ⟨by decide, by decide⟩, by decide +kernel, uw_mem 667 rfl rfl, uw_mem 53 rfl rfl⟩
set_option maxRecDepth 20000 in
theorem mo_Mod_packsUpTo : u_MO mMod_packsUpTo 1 := ⟨by decide, rfl, by decide, by decide, ⟨by decide, by decide⟩, by decide +kernel, uw_mem 916 rfl rfl, uw_mem 63 rfl rfl⟩
set_option maxRecDepth 20000 in
theorem mo_Mod_allBits : u_MO mMod_allBits 0 := ⟨by decide, rfl, by decide, by decide, ⟨by decide, by decide⟩, by decide +kernel, uw_mem 975 rfl rfl, uw_mem 63 rfl rfl⟩
set_option maxRecDepth 20000 in
theorem mo_Mod_path : u_MO mMod_path 2 := ⟨by decide, rfl, by decide, by decide, ⟨by decide, by decide⟩, by decide +kernel, uw_mem 1019 rfl rfl, uw_mem 63 rfl rfl⟩
set_option maxRecDepth 20000 in
theorem mo_Mod_overPages : u_MO mMod_overPages 1 := ⟨by decide, rfl, by decide, by decide, ⟨by decide, by decide⟩, by decide +kernel, uw_mem 1043 rfl rfl, uw_mem 63 rfl rfl⟩
set_option maxRecDepth 20000 in
theorem mo_Mod_pack : u_MO mMod_pack 0 := ⟨by decide, rfl, by decide, by decide, ⟨by decide, by decide⟩, by decide +kernel, uw_mem 861 rfl rfl, uw_mem 63 rfl rfl⟩
set_option maxRecDepth 20000 in
theorem mo_Mod_first : u_MO mMod_first 1 := ⟨by decide, rfl, by decide, by decide, ⟨by decide, by decide⟩, by decide +kernel, uw_mem 967 rfl rfl, uw_mem 63 rfl rfl⟩
set_option maxRecDepth 20000 in
theorem mo_Mod_code : u_MO mMod_code 3 := ⟨by decide, rfl, by decide, by decide, ⟨by decide, by decide⟩, by decide +kernel, uw_mem 1007 rfl rfl, uw_mem 63 rfl rfl⟩
set_option maxRecDepth 20000 in
theorem mo_Mod_bits : u_MO mMod_bits 2 := ⟨by decide, rfl, by decide, by decide, ⟨by decide, by decide⟩, by decide +kernel, uw_mem 1011 rfl rfl, uw_mem 63 rfl rfl⟩
set_option maxRecDepth 20000 in
theorem mo_Mod_wouldTake : u_MO mMod_wouldTake 1 := ⟨by decide, rfl, by decide, by decide, ⟨by decide, by decide⟩, by decide +kernel, uw_mem 1015 rfl rfl, uw_mem 63 rfl rfl⟩
set_option maxRecDepth 20000 in
theorem mo_Mod_known : u_MO mMod_known 2 := ⟨by decide, rfl, by decide, by decide, ⟨by decide, by decide⟩, by decide +kernel, uw_mem 1031 rfl rfl, uw_mem 63 rfl rfl⟩
set_option maxRecDepth 20000 in
theorem mo_Mod_latest : u_MO mMod_latest 2 := ⟨by decide, rfl, by decide, by decide, ⟨by decide, by decide⟩, by decide +kernel, uw_mem 1035 rfl rfl, uw_mem 63 rfl rfl⟩
set_option maxRecDepth 20000 in
theorem mo_Mod_count : u_MO mMod_count 1 := ⟨by decide, rfl, by decide, by decide, ⟨by decide, by decide⟩, by decide +kernel, uw_mem 1039 rfl rfl, uw_mem 63 rfl rfl⟩
set_option maxRecDepth 20000 in
theorem kV_Cod_29 : u_CV "UnmarkedPages$Codes" 29 6 mRow_clear 0 := ⟨mo_Row_clear, uw_mem 503 rfl rfl, uw_mem 395 rfl rfl, uw_mem 396 rfl rfl, _, rfl, rfl⟩
set_option maxRecDepth 20000 in
theorem kV_Cod_32 : u_CV "UnmarkedPages$Codes" 32 6 mRow_size 0 := ⟨mo_Row_size, uw_mem 580 rfl rfl, uw_mem 400 rfl rfl, uw_mem 401 rfl rfl, _, rfl, rfl⟩
set_option maxRecDepth 20000 in
theorem kV_Cod_36 : u_CV "UnmarkedPages$Codes" 36 0 mCod_rowAt 1 := ⟨mo_Cod_rowAt, uw_mem 581 rfl rfl, uw_mem 582 rfl rfl, uw_mem 583 rfl rfl, _, rfl, rfl⟩
set_option maxRecDepth 20000 in
theorem kV_Cod_40 : u_CV "UnmarkedPages$Codes" 40 6 mRow_at 1 := ⟨mo_Row_at, uw_mem 585 rfl rfl, uw_mem 335 rfl rfl, uw_mem 336 rfl rfl, _, rfl, rfl⟩
set_option maxRecDepth 20000 in
theorem kS_Cod_44 : u_CS "UnmarkedPages$Codes" 44 mCod_bitsOfCode 1 := ⟨mo_Cod_bitsOfCode, Or.inl (uw_mem 586 rfl rfl), uw_mem 587 rfl rfl⟩
set_option maxRecDepth 20000 in
theorem kI_Frl_3 : Cond.methodLink "UnmarkedPages$FrontList" 3 Lib.objectInit ∈ uw_W := uw_mem 233 rfl rfl
set_option maxRecDepth 20000 in
theorem kS_Frl_9 : Cond.methodLink "UnmarkedPages$FrontList" 9 Lib.Math.max.name ∈ uw_W := uw_mem 234 rfl rfl
set_option maxRecDepth 20000 in
theorem kV_Frl_25 : u_CV "UnmarkedPages$FrontList" 25 1 mFrl_placeOf 1 := ⟨mo_Frl_placeOf, uw_mem 528 rfl rfl, uw_mem 516 rfl rfl, uw_mem 517 rfl rfl, _, rfl, rfl⟩
set_option maxRecDepth 20000 in
theorem kV_Kno_37 : u_CV "UnmarkedPages$Known" 37 1 mFrl_clear 0 := ⟨mo_Frl_clear, uw_mem 601 rfl rfl, uw_mem 602 rfl rfl, uw_mem 603 rfl rfl, _, rfl, rfl⟩
set_option maxRecDepth 20000 in
theorem kV_Kno_34 : u_CV "UnmarkedPages$Known" 34 6 mRow_fill 1 := ⟨mo_Row_fill, uw_mem 245 rfl rfl, uw_mem 205 rfl rfl, uw_mem 206 rfl rfl, _, rfl, rfl⟩
set_option maxRecDepth 20000 in
theorem kV_Kno_40 : u_CV "UnmarkedPages$Known" 40 6 mRow_at 1 := ⟨mo_Row_at, uw_mem 510 rfl rfl, uw_mem 335 rfl rfl, uw_mem 336 rfl rfl, _, rfl, rfl⟩
set_option maxRecDepth 20000 in
theorem kV_Pag_41 : u_CV "UnmarkedPages$Page" 41 6 mRow_clear 0 := ⟨mo_Row_clear, uw_mem 394 rfl rfl, uw_mem 395 rfl rfl, uw_mem 396 rfl rfl, _, rfl, rfl⟩
set_option maxRecDepth 20000 in
theorem kV_Pag_48 : u_CV "UnmarkedPages$Page" 48 6 mRow_add 1 := ⟨mo_Row_add, uw_mem 452 rfl rfl, uw_mem 405 rfl rfl, uw_mem 406 rfl rfl, _, rfl, rfl⟩
set_option maxRecDepth 20000 in
theorem kV_Pag_51 : u_CV "UnmarkedPages$Page" 51 6 mRow_size 0 := ⟨mo_Row_size, uw_mem 471 rfl rfl, uw_mem 400 rfl rfl, uw_mem 401 rfl rfl, _, rfl, rfl⟩
set_option maxRecDepth 20000 in
theorem kV_Pag_55 : u_CV "UnmarkedPages$Page" 55 6 mRow_last 0 := ⟨mo_Row_last, uw_mem 472 rfl rfl, uw_mem 436 rfl rfl, uw_mem 437 rfl rfl, _, rfl, rfl⟩
set_option maxRecDepth 20000 in
theorem kV_Pag_58 : u_CV "UnmarkedPages$Page" 58 6 mRow_put 2 := ⟨mo_Row_put, uw_mem 473 rfl rfl, uw_mem 371 rfl rfl, uw_mem 372 rfl rfl, _, rfl, rfl⟩
set_option maxRecDepth 20000 in
theorem kV_Pag_62 : u_CV "UnmarkedPages$Page" 62 6 mRow_at 1 := ⟨mo_Row_at, uw_mem 541 rfl rfl, uw_mem 335 rfl rfl, uw_mem 336 rfl rfl, _, rfl, rfl⟩
set_option maxRecDepth 20000 in
theorem kV_Pth_30 : u_CV "UnmarkedPages$PathReader" 30 6 mRow_size 0 := ⟨mo_Row_size, uw_mem 677 rfl rfl, uw_mem 400 rfl rfl, uw_mem 401 rfl rfl, _, rfl, rfl⟩
set_option maxRecDepth 20000 in
theorem kS_Pth_51 : u_CS "UnmarkedPages$PathReader" 51 mUmp_isNameLetter 1 := ⟨mo_Ump_isNameLetter, Or.inr ⟨"UnmarkedPages", by decide +kernel⟩, uw_mem 425 rfl rfl⟩
set_option maxRecDepth 20000 in
theorem kV_Pth_54 : u_CV "UnmarkedPages$PathReader" 54 6 mRow_add 1 := ⟨mo_Row_add, uw_mem 684 rfl rfl, uw_mem 405 rfl rfl, uw_mem 406 rfl rfl, _, rfl, rfl⟩
set_option maxRecDepth 20000 in
theorem kV_Pth_57 : u_CV "UnmarkedPages$PathReader" 57 6 mRow_put 2 := ⟨mo_Row_put, uw_mem 685 rfl rfl, uw_mem 371 rfl rfl, uw_mem 372 rfl rfl, _, rfl, rfl⟩
set_option maxRecDepth 20000 in
theorem kV_Rea_59 : u_CV "UnmarkedPages$Reader" 59 5 mRea_tell 3 := ⟨mo_Rea_tell, uw_mem 416 rfl rfl, uw_mem 418 rfl rfl, uw_mem 3 rfl rfl, _, rfl, rfl⟩
set_option maxRecDepth 20000 in
theorem kV_Rea_48 : u_CV "UnmarkedPages$Reader" 48 6 mRow_at 1 := ⟨mo_Row_at, uw_mem 403 rfl rfl, uw_mem 335 rfl rfl, uw_mem 336 rfl rfl, _, rfl, rfl⟩
set_option maxRecDepth 20000 in
theorem kV_Rea_114 : u_CV "UnmarkedPages$Reader" 114 6 mRow_put 2 := ⟨mo_Row_put, uw_mem 458 rfl rfl, uw_mem 371 rfl rfl, uw_mem 372 rfl rfl, _, rfl, rfl⟩
set_option maxRecDepth 20000 in
theorem kV_Rea_105 : u_CV "UnmarkedPages$Reader" 105 6 mRow_last 0 := ⟨mo_Row_last, uw_mem 435 rfl rfl, uw_mem 436 rfl rfl, uw_mem 437 rfl rfl, _, rfl, rfl⟩
set_option maxRecDepth 20000 in
theorem kV_Rea_52 : u_CV "UnmarkedPages$Reader" 52 6 mRow_add 1 := ⟨mo_Row_add, uw_mem 404 rfl rfl, uw_mem 405 rfl rfl, uw_mem 406 rfl rfl, _, rfl, rfl⟩
set_option maxRecDepth 20000 in
theorem kV_Rea_136 : u_CV "UnmarkedPages$Reader" 136 6 mRow_removeLast 0 := ⟨mo_Row_removeLast, uw_mem 444 rfl rfl, uw_mem 445 rfl rfl, uw_mem 446 rfl rfl, _, rfl, rfl⟩
set_option maxRecDepth 20000 in
theorem kI_Row_3 : Cond.methodLink "UnmarkedPages$Row" 3 Lib.objectInit ∈ uw_W := uw_mem 78 rfl rfl
set_option maxRecDepth 20000 in
theorem kS_Row_9 : Cond.methodLink "UnmarkedPages$Row" 9 Lib.Math.max.name ∈ uw_W := uw_mem 79 rfl rfl
set_option maxRecDepth 20000 in
theorem kS_Row_25 : Cond.methodLink "UnmarkedPages$Row" 25 Lib.Math.min.name ∈ uw_W := uw_mem 350 rfl rfl
set_option maxRecDepth 20000 in
theorem kV_Sta_46 : u_CV "UnmarkedPages$State" 46 6 mRow_at 1 := ⟨mo_Row_at, uw_mem 334 rfl rfl, uw_mem 335 rfl rfl, uw_mem 336 rfl rfl, _, rfl, rfl⟩
set_option maxRecDepth 20000 in
theorem kV_Sta_50 : u_CV "UnmarkedPages$State" 50 6 mRow_put 2 := ⟨mo_Row_put, uw_mem 370 rfl rfl, uw_mem 371 rfl rfl, uw_mem 372 rfl rfl, _, rfl, rfl⟩
set_option maxRecDepth 20000 in
theorem kV_Sta_54 : u_CV "UnmarkedPages$State" 54 6 mRow_countOf 1 := ⟨mo_Row_countOf, uw_mem 378 rfl rfl, uw_mem 379 rfl rfl, uw_mem 380 rfl rfl, _, rfl, rfl⟩
set_option maxRecDepth 20000 in
theorem kV_Sta_38 : u_CV "UnmarkedPages$State" 38 7 mSta_pageAt 1 := ⟨mo_Sta_pageAt, uw_mem 353 rfl rfl, uw_mem 354 rfl rfl, uw_mem 355 rfl rfl, _, rfl, rfl⟩
set_option maxRecDepth 20000 in
theorem kV_Sta_62 : u_CV "UnmarkedPages$State" 62 6 mRow_size 0 := ⟨mo_Row_size, uw_mem 731 rfl rfl, uw_mem 400 rfl rfl, uw_mem 401 rfl rfl, _, rfl, rfl⟩
set_option maxRecDepth 20000 in
theorem kV_Ump_132 : u_CV "UnmarkedPages" 132 6 mRow_size 0 := ⟨mo_Row_size, uw_mem 626 rfl rfl, uw_mem 400 rfl rfl, uw_mem 401 rfl rfl, _, rfl, rfl⟩
set_option maxRecDepth 20000 in
theorem kV_Ump_135 : u_CV "UnmarkedPages" 135 6 mRow_add 1 := ⟨mo_Row_add, uw_mem 627 rfl rfl, uw_mem 405 rfl rfl, uw_mem 406 rfl rfl, _, rfl, rfl⟩
set_option maxRecDepth 20000 in
theorem kV_Ump_138 : u_CV "UnmarkedPages" 138 6 mRow_clear 0 := ⟨mo_Row_clear, uw_mem 632 rfl rfl, uw_mem 395 rfl rfl, uw_mem 396 rfl rfl, _, rfl, rfl⟩
set_option maxRecDepth 20000 in
theorem kV_Ump_123 : u_CV "UnmarkedPages" 123 7 mSta_hasPage 1 := ⟨mo_Sta_hasPage, uw_mem 610 rfl rfl, uw_mem 611 rfl rfl, uw_mem 612 rfl rfl, _, rfl, rfl⟩
set_option maxRecDepth 20000 in
theorem kV_Ump_158 : u_CV "UnmarkedPages" 158 7 mSta_pageAt 1 := ⟨mo_Sta_pageAt, uw_mem 605 rfl rfl, uw_mem 354 rfl rfl, uw_mem 355 rfl rfl, _, rfl, rfl⟩
set_option maxRecDepth 20000 in
theorem kV_Ump_167 : u_CV "UnmarkedPages" 167 6 mRow_at 1 := ⟨mo_Row_at, uw_mem 653 rfl rfl, uw_mem 335 rfl rfl, uw_mem 336 rfl rfl, _, rfl, rfl⟩
set_option maxRecDepth 20000 in
theorem kV_Ump_101 : u_CV "UnmarkedPages" 101 8 mUmp_codesOf 1 := ⟨mo_Ump_codesOf, uw_mem 490 rfl rfl, uw_mem 492 rfl rfl, uw_mem 13 rfl rfl, _, rfl, rfl⟩
set_option maxRecDepth 20000 in
theorem kV_Ump_171 : u_CV "UnmarkedPages" 171 0 mCod_rowAt 1 := ⟨mo_Cod_rowAt, uw_mem 658 rfl rfl, uw_mem 582 rfl rfl, uw_mem 583 rfl rfl, _, rfl, rfl⟩
set_option maxRecDepth 20000 in
theorem kV_Ump_193 : u_CV "UnmarkedPages" 193 2 mKno_namesIn 1 := ⟨mo_Kno_namesIn, uw_mem 712 rfl rfl, uw_mem 512 rfl rfl, uw_mem 513 rfl rfl, _, rfl, rfl⟩
set_option maxRecDepth 20000 in
theorem kV_Ump_197 : u_CV "UnmarkedPages" 197 1 mFrl_size 0 := ⟨mo_Frl_size, uw_mem 713 rfl rfl, uw_mem 520 rfl rfl, uw_mem 521 rfl rfl, _, rfl, rfl⟩
set_option maxRecDepth 20000 in
theorem kV_Ump_200 : u_CV "UnmarkedPages" 200 1 mFrl_at 1 := ⟨mo_Frl_at, uw_mem 714 rfl rfl, uw_mem 715 rfl rfl, uw_mem 716 rfl rfl, _, rfl, rfl⟩
set_option maxRecDepth 20000 in
theorem kI_Mod_1 : Cond.methodLink "UnmarkedPagesModel" 1 Lib.objectInit ∈ uw_W := uw_mem 741 rfl rfl
set_option maxRecDepth 20000 in
theorem kS_Mod_71 : u_CS "UnmarkedPagesModel" 71 mMod_in 3 := ⟨mo_Mod_in, Or.inl (uw_mem 847 rfl rfl), uw_mem 848 rfl rfl⟩
set_option maxRecDepth 20000 in
theorem kV_Mod_97 : u_CV "UnmarkedPagesModel" 97 9 mMod_box 2 := ⟨mo_Mod_box, uw_mem 882 rfl rfl, uw_mem 884 rfl rfl, uw_mem 29 rfl rfl, _, rfl, rfl⟩
set_option maxRecDepth 20000 in
theorem kV_Mod_101 : u_CV "UnmarkedPagesModel" 101 9 mMod_steps 2 := ⟨mo_Mod_steps, uw_mem 890 rfl rfl, uw_mem 892 rfl rfl, uw_mem 31 rfl rfl, _, rfl, rfl⟩
set_option maxRecDepth 20000 in
theorem kV_Mod_150 : u_CV "UnmarkedPagesModel" 150 9 mMod_codes 2 := ⟨mo_Mod_codes, uw_mem 929 rfl rfl, uw_mem 931 rfl rfl, uw_mem 40 rfl rfl, _, rfl, rfl⟩
set_option maxRecDepth 20000 in
theorem kV_Mod_152 : u_CV "UnmarkedPagesModel" 152 9 mMod_isWord 3 := ⟨mo_Mod_isWord, uw_mem 945 rfl rfl, uw_mem 947 rfl rfl, uw_mem 44 rfl rfl, _, rfl, rfl⟩
set_option maxRecDepth 20000 in
theorem kS_Mod_174 : u_CS "UnmarkedPagesModel" 174 mMod_bitsOf 1 := ⟨mo_Mod_bitsOf, Or.inl (uw_mem 957 rfl rfl), uw_mem 958 rfl rfl⟩
set_option maxRecDepth 20000 in
theorem kV_Mod_188 : u_CV "UnmarkedPagesModel" 188 9 mMod_record 0 := ⟨mo_Mod_record, uw_mem 850 rfl rfl, uw_mem 852 rfl rfl, uw_mem 22 rfl rfl, _, rfl, rfl⟩
set_option maxRecDepth 20000 in
theorem kI_Cod_3 : Cond.methodLink "UnmarkedPages$Codes" 3 Lib.objectInit ∈ uw_W := uw_mem 266 rfl rfl
set_option maxRecDepth 20000 in
theorem kI_Cod_11 : u_CI "UnmarkedPages$Codes" 11 mRow_init 1 := ⟨mo_Row_init, Or.inl (uw_mem 268 rfl rfl), uw_mem 76 rfl rfl, rfl, rfl⟩
set_option maxRecDepth 20000 in
theorem kV_Cod_47 : u_CV "UnmarkedPages$Codes" 47 0 mCod_bitsOfRow 1 := ⟨mo_Cod_bitsOfRow, uw_mem 576 rfl rfl, uw_mem 577 rfl rfl, uw_mem 578 rfl rfl, _, rfl, rfl⟩
set_option maxRecDepth 20000 in
theorem kI_Kno_3 : Cond.methodLink "UnmarkedPages$Known" 3 Lib.objectInit ∈ uw_W := uw_mem 226 rfl rfl
set_option maxRecDepth 20000 in
theorem kI_Kno_17 : u_CI "UnmarkedPages$Known" 17 mFrl_init 1 := ⟨mo_Frl_init, Or.inl (uw_mem 230 rfl rfl), uw_mem 231 rfl rfl, rfl, rfl⟩
set_option maxRecDepth 20000 in
theorem kI_Kno_26 : u_CI "UnmarkedPages$Known" 26 mRow_init 1 := ⟨mo_Row_init, Or.inl (uw_mem 244 rfl rfl), uw_mem 76 rfl rfl, rfl, rfl⟩
set_option maxRecDepth 20000 in
theorem kV_Kno_87 : u_CV "UnmarkedPages$Known" 87 2 mKno_namesIn 1 := ⟨mo_Kno_namesIn, uw_mem 511 rfl rfl, uw_mem 512 rfl rfl, uw_mem 513 rfl rfl, _, rfl, rfl⟩
set_option maxRecDepth 20000 in
theorem kV_Kno_91 : u_CV "UnmarkedPages$Known" 91 1 mFrl_placeOf 1 := ⟨mo_Frl_placeOf, uw_mem 515 rfl rfl, uw_mem 516 rfl rfl, uw_mem 517 rfl rfl, _, rfl, rfl⟩
set_option maxRecDepth 20000 in
theorem kV_Kno_95 : u_CV "UnmarkedPages$Known" 95 1 mFrl_size 0 := ⟨mo_Frl_size, uw_mem 519 rfl rfl, uw_mem 520 rfl rfl, uw_mem 521 rfl rfl, _, rfl, rfl⟩
set_option maxRecDepth 20000 in
theorem kV_Kno_96 : u_CV "UnmarkedPages$Known" 96 6 mRow_add 1 := ⟨mo_Row_add, uw_mem 523 rfl rfl, uw_mem 405 rfl rfl, uw_mem 406 rfl rfl, _, rfl, rfl⟩
set_option maxRecDepth 20000 in
theorem kV_Kno_99 : u_CV "UnmarkedPages$Known" 99 1 mFrl_meet 1 := ⟨mo_Frl_meet, uw_mem 524 rfl rfl, uw_mem 525 rfl rfl, uw_mem 526 rfl rfl, _, rfl, rfl⟩
set_option maxRecDepth 20000 in
theorem kV_Kno_126 : u_CV "UnmarkedPages$Known" 126 2 mKno_valueOf 2 := ⟨mo_Kno_valueOf, uw_mem 551 rfl rfl, uw_mem 552 rfl rfl, uw_mem 553 rfl rfl, _, rfl, rfl⟩
set_option maxRecDepth 20000 in
theorem kS_Kno_129 : Cond.methodLink "UnmarkedPages$Known" 129 Lib.Math.max.name ∈ uw_W := uw_mem 555 rfl rfl
set_option maxRecDepth 20000 in
theorem kV_Kno_106 : u_CV "UnmarkedPages$Known" 106 6 mRow_put 2 := ⟨mo_Row_put, uw_mem 542 rfl rfl, uw_mem 371 rfl rfl, uw_mem 372 rfl rfl, _, rfl, rfl⟩
set_option maxRecDepth 20000 in
theorem kI_Pag_3 : Cond.methodLink "UnmarkedPages$Page" 3 Lib.objectInit ∈ uw_W := uw_mem 101 rfl rfl
set_option maxRecDepth 20000 in
theorem kI_Pag_11 : u_CI "UnmarkedPages$Page" 11 mRow_init 1 := ⟨mo_Row_init, Or.inl (uw_mem 103 rfl rfl), uw_mem 76 rfl rfl, rfl, rfl⟩
set_option maxRecDepth 20000 in
theorem kV_Pag_44 : u_CV "UnmarkedPages$Page" 44 6 mRow_become 1 := ⟨mo_Row_become, uw_mem 365 rfl rfl, uw_mem 347 rfl rfl, uw_mem 348 rfl rfl, _, rfl, rfl⟩
set_option maxRecDepth 20000 in
theorem kV_Pag_66 : u_CV "UnmarkedPages$Page" 66 3 mPag_keyOfNote 2 := ⟨mo_Pag_keyOfNote, uw_mem 537 rfl rfl, uw_mem 538 rfl rfl, uw_mem 539 rfl rfl, _, rfl, rfl⟩
set_option maxRecDepth 20000 in
theorem kI_Pth_3 : Cond.methodLink "UnmarkedPages$PathReader" 3 Lib.objectInit ∈ uw_W := uw_mem 181 rfl rfl
set_option maxRecDepth 20000 in
theorem kI_Pth_11 : u_CI "UnmarkedPages$PathReader" 11 mRow_init 1 := ⟨mo_Row_init, Or.inl (uw_mem 183 rfl rfl), uw_mem 76 rfl rfl, rfl, rfl⟩
set_option maxRecDepth 20000 in
theorem kV_Pth_23 : u_CV "UnmarkedPages$PathReader" 23 6 mRow_clear 0 := ⟨mo_Row_clear, uw_mem 676 rfl rfl, uw_mem 395 rfl rfl, uw_mem 396 rfl rfl, _, rfl, rfl⟩
set_option maxRecDepth 20000 in
theorem kV_Pth_34 : u_CV "UnmarkedPages$PathReader" 34 6 mRow_at 1 := ⟨mo_Row_at, uw_mem 678 rfl rfl, uw_mem 335 rfl rfl, uw_mem 336 rfl rfl, _, rfl, rfl⟩
set_option maxRecDepth 20000 in
theorem kV_Pth_38 : u_CV "UnmarkedPages$PathReader" 38 4 mPth_takes 1 := ⟨mo_Pth_takes, uw_mem 679 rfl rfl, uw_mem 681 rfl rfl, uw_mem 20 rfl rfl, _, rfl, rfl⟩
set_option maxRecDepth 20000 in
theorem kV_Pth_47 : u_CV "UnmarkedPages$PathReader" 47 3 mPag_boxInside 3 := ⟨mo_Pag_boxInside, uw_mem 690 rfl rfl, uw_mem 691 rfl rfl, uw_mem 692 rfl rfl, _, rfl, rfl⟩
set_option maxRecDepth 20000 in
theorem kV_Rea_41 : u_CV "UnmarkedPages$Reader" 41 6 mRow_size 0 := ⟨mo_Row_size, uw_mem 399 rfl rfl, uw_mem 400 rfl rfl, uw_mem 401 rfl rfl, _, rfl, rfl⟩
set_option maxRecDepth 20000 in
theorem kV_Rea_90 : u_CV "UnmarkedPages$Reader" 90 5 mRea_latestName 0 := ⟨mo_Rea_latestName, uw_mem 431 rfl rfl, uw_mem 433 rfl rfl, uw_mem 6 rfl rfl, _, rfl, rfl⟩
set_option maxRecDepth 20000 in
theorem kV_Rea_93 : u_CV "UnmarkedPages$Reader" 93 7 mSta_ends 2 := ⟨mo_Sta_ends, uw_mem 439 rfl rfl, uw_mem 331 rfl rfl, uw_mem 332 rfl rfl, _, rfl, rfl⟩
set_option maxRecDepth 20000 in
theorem kV_Rea_99 : u_CV "UnmarkedPages$Reader" 99 5 mRea_close 1 := ⟨mo_Rea_close, uw_mem 440 rfl rfl, uw_mem 442 rfl rfl, uw_mem 7 rfl rfl, _, rfl, rfl⟩
set_option maxRecDepth 20000 in
theorem kV_Rea_108 : u_CV "UnmarkedPages$Reader" 108 3 mPag_addBox 3 := ⟨mo_Pag_addBox, uw_mem 448 rfl rfl, uw_mem 449 rfl rfl, uw_mem 450 rfl rfl, _, rfl, rfl⟩
set_option maxRecDepth 20000 in
theorem kV_Rea_111 : u_CV "UnmarkedPages$Reader" 111 6 mRow_fill 1 := ⟨mo_Row_fill, uw_mem 453 rfl rfl, uw_mem 205 rfl rfl, uw_mem 206 rfl rfl, _, rfl, rfl⟩
set_option maxRecDepth 20000 in
theorem kV_Rea_63 : u_CV "UnmarkedPages$Reader" 63 5 mRea_expect 3 := ⟨mo_Rea_expect, uw_mem 412 rfl rfl, uw_mem 414 rfl rfl, uw_mem 2 rfl rfl, _, rfl, rfl⟩
set_option maxRecDepth 20000 in
theorem kV_Rea_117 : u_CV "UnmarkedPages$Reader" 117 3 mPag_addWord 2 := ⟨mo_Pag_addWord, uw_mem 463 rfl rfl, uw_mem 464 rfl rfl, uw_mem 465 rfl rfl, _, rfl, rfl⟩
set_option maxRecDepth 20000 in
theorem kV_Rea_123 : u_CV "UnmarkedPages$Reader" 123 3 mPag_lengthenWord 0 := ⟨mo_Pag_lengthenWord, uw_mem 467 rfl rfl, uw_mem 468 rfl rfl, uw_mem 469 rfl rfl, _, rfl, rfl⟩
set_option maxRecDepth 20000 in
theorem kS_Ump_67 : u_CS "UnmarkedPages" 67 mUmp_isName 1 := ⟨mo_Ump_isName, Or.inl (uw_mem 327 rfl rfl), uw_mem 328 rfl rfl⟩
set_option maxRecDepth 20000 in
theorem kV_Ump_203 : u_CV "UnmarkedPages" 203 2 mKno_valueOf 2 := ⟨mo_Kno_valueOf, uw_mem 722 rfl rfl, uw_mem 552 rfl rfl, uw_mem 553 rfl rfl, _, rfl, rfl⟩
set_option maxRecDepth 20000 in
theorem kV_Mod_107 : u_CV "UnmarkedPagesModel" 107 9 mMod_isAt 3 := ⟨mo_Mod_isAt, uw_mem 870 rfl rfl, uw_mem 872 rfl rfl, uw_mem 26 rfl rfl, _, rfl, rfl⟩
set_option maxRecDepth 20000 in
theorem kV_Mod_110 : u_CV "UnmarkedPagesModel" 110 9 mMod_fails 3 := ⟨mo_Mod_fails, uw_mem 878 rfl rfl, uw_mem 880 rfl rfl, uw_mem 28 rfl rfl, _, rfl, rfl⟩
set_option maxRecDepth 20000 in
theorem kV_Mod_113 : u_CV "UnmarkedPagesModel" 113 9 mMod_boxes 3 := ⟨mo_Mod_boxes, uw_mem 886 rfl rfl, uw_mem 888 rfl rfl, uw_mem 30 rfl rfl, _, rfl, rfl⟩
set_option maxRecDepth 20000 in
theorem kS_Mod_116 : u_CS "UnmarkedPagesModel" 116 mMod_rankOf 3 := ⟨mo_Mod_rankOf, Or.inl (uw_mem 910 rfl rfl), uw_mem 911 rfl rfl⟩
set_option maxRecDepth 20000 in
theorem kV_Mod_120 : u_CV "UnmarkedPagesModel" 120 9 mMod_implies 2 := ⟨mo_Mod_implies, uw_mem 898 rfl rfl, uw_mem 900 rfl rfl, uw_mem 33 rfl rfl, _, rfl, rfl⟩
set_option maxRecDepth 20000 in
theorem kV_Mod_155 : u_CV "UnmarkedPagesModel" 155 9 mMod_codesName 1 := ⟨mo_Mod_codesName, uw_mem 933 rfl rfl, uw_mem 935 rfl rfl, uw_mem 41 rfl rfl, _, rfl, rfl⟩
set_option maxRecDepth 20000 in
theorem kV_Mod_159 : u_CV "UnmarkedPagesModel" 159 9 mMod_codesNotes 1 := ⟨mo_Mod_codesNotes, uw_mem 937 rfl rfl, uw_mem 939 rfl rfl, uw_mem 42 rfl rfl, _, rfl, rfl⟩
set_option maxRecDepth 20000 in
theorem kV_Mod_162 : u_CV "UnmarkedPagesModel" 162 9 mMod_codesWord 2 := ⟨mo_Mod_codesWord, uw_mem 941 rfl rfl, uw_mem 943 rfl rfl, uw_mem 43 rfl rfl, _, rfl, rfl⟩
set_option maxRecDepth 20000 in
theorem kV_Mod_177 : u_CV "UnmarkedPagesModel" 177 9 mMod_rowBits 1 := ⟨mo_Mod_rowBits, uw_mem 953 rfl rfl, uw_mem 955 rfl rfl, uw_mem 46 rfl rfl, _, rfl, rfl⟩
set_option maxRecDepth 20000 in
theorem kS_Mod_184 : u_CS "UnmarkedPagesModel" 184 mMod_noName 1 := ⟨mo_Mod_noName, Or.inl (uw_mem 844 rfl rfl), uw_mem 845 rfl rfl⟩
set_option maxRecDepth 20000 in
theorem kV_Mod_191 : u_CV "UnmarkedPagesModel" 191 9 mMod_rules 0 := ⟨mo_Mod_rules, uw_mem 854 rfl rfl, uw_mem 856 rfl rfl, uw_mem 23 rfl rfl, _, rfl, rfl⟩
set_option maxRecDepth 20000 in
theorem kV_Mod_200 : u_CV "UnmarkedPagesModel" 200 9 mMod_no 1 := ⟨mo_Mod_no, uw_mem 968 rfl rfl, uw_mem 970 rfl rfl, uw_mem 47 rfl rfl, _, rfl, rfl⟩
set_option maxRecDepth 20000 in
theorem kV_Kno_103 : u_CV "UnmarkedPages$Known" 103 3 mPag_keySet 1 := ⟨mo_Pag_keySet, uw_mem 533 rfl rfl, uw_mem 534 rfl rfl, uw_mem 535 rfl rfl, _, rfl, rfl⟩
set_option maxRecDepth 20000 in
theorem kV_Kno_110 : u_CV "UnmarkedPages$Known" 110 3 mPag_valueOfKey 2 := ⟨mo_Pag_valueOfKey, uw_mem 543 rfl rfl, uw_mem 544 rfl rfl, uw_mem 545 rfl rfl, _, rfl, rfl⟩
set_option maxRecDepth 20000 in
theorem kV_Kno_114 : u_CV "UnmarkedPages$Known" 114 2 mKno_takeValue 4 := ⟨mo_Kno_takeValue, uw_mem 547 rfl rfl, uw_mem 549 rfl rfl, uw_mem 16 rfl rfl, _, rfl, rfl⟩
set_option maxRecDepth 20000 in
theorem kS_Kno_118 : u_CS "UnmarkedPages$Known" 118 mInt_bitCount 1 := ⟨mo_Int_bitCount, Or.inl (uw_mem 556 rfl rfl), uw_mem 557 rfl rfl⟩
set_option maxRecDepth 20000 in
theorem kV_Kno_123 : u_CV "UnmarkedPages$Known" 123 3 mPag_orderOfKeys 2 := ⟨mo_Pag_orderOfKeys, uw_mem 562 rfl rfl, uw_mem 563 rfl rfl, uw_mem 564 rfl rfl, _, rfl, rfl⟩
set_option maxRecDepth 20000 in
theorem kI_Rea_3 : Cond.methodLink "UnmarkedPages$Reader" 3 Lib.objectInit ∈ uw_W := uw_mem 95 rfl rfl
set_option maxRecDepth 20000 in
theorem kI_Rea_11 : u_CI "UnmarkedPages$Reader" 11 mPag_init 0 := ⟨mo_Pag_init, Or.inr ⟨"UnmarkedPages", by decide +kernel⟩, uw_mem 99 rfl rfl, rfl, rfl⟩
set_option maxRecDepth 20000 in
theorem kI_Rea_24 : u_CI "UnmarkedPages$Reader" 24 mRow_init 1 := ⟨mo_Row_init, Or.inl (uw_mem 149 rfl rfl), uw_mem 76 rfl rfl, rfl, rfl⟩
set_option maxRecDepth 20000 in
theorem kS_Rea_83 : u_CS "UnmarkedPages$Reader" 83 mUmp_isNameLetter 1 := ⟨mo_Ump_isNameLetter, Or.inr ⟨"UnmarkedPages", by decide +kernel⟩, uw_mem 425 rfl rfl⟩
set_option maxRecDepth 20000 in
theorem kV_Rea_87 : u_CV "UnmarkedPages$Reader" 87 5 mRea_openBox 3 := ⟨mo_Rea_openBox, uw_mem 427 rfl rfl, uw_mem 429 rfl rfl, uw_mem 5 rfl rfl, _, rfl, rfl⟩
set_option maxRecDepth 20000 in
theorem kV_Rea_126 : u_CV "UnmarkedPages$Reader" 126 5 mRea_isEndedByClosing 2 := ⟨mo_Rea_isEndedByClosing, uw_mem 478 rfl rfl, uw_mem 480 rfl rfl, uw_mem 11 rfl rfl, _, rfl, rfl⟩
set_option maxRecDepth 20000 in
theorem kI_Sta_3 : Cond.methodLink "UnmarkedPages$State" 3 Lib.objectInit ∈ uw_W := uw_mem 199 rfl rfl
set_option maxRecDepth 20000 in
theorem kI_Sta_11 : u_CI "UnmarkedPages$State" 11 mRow_init 1 := ⟨mo_Row_init, Or.inl (uw_mem 201 rfl rfl), uw_mem 76 rfl rfl, rfl, rfl⟩
set_option maxRecDepth 20000 in
theorem kV_Sta_26 : u_CV "UnmarkedPages$State" 26 6 mRow_fill 1 := ⟨mo_Row_fill, uw_mem 204 rfl rfl, uw_mem 205 rfl rfl, uw_mem 206 rfl rfl, _, rfl, rfl⟩
set_option maxRecDepth 20000 in
theorem kI_Sta_29 : u_CI "UnmarkedPages$State" 29 mPag_init 0 := ⟨mo_Pag_init, Or.inr ⟨"UnmarkedPages", by decide +kernel⟩, uw_mem 99 rfl rfl, rfl, rfl⟩
set_option maxRecDepth 20000 in
theorem kV_Sta_57 : u_CV "UnmarkedPages$State" 57 3 mPag_become 1 := ⟨mo_Pag_become, uw_mem 361 rfl rfl, uw_mem 362 rfl rfl, uw_mem 363 rfl rfl, _, rfl, rfl⟩
set_option maxRecDepth 20000 in
theorem kV_Ump_117 : u_CV "UnmarkedPages" 117 0 mCod_bitsOfAll 0 := ⟨mo_Cod_bitsOfAll, uw_mem 572 rfl rfl, uw_mem 573 rfl rfl, uw_mem 574 rfl rfl, _, rfl, rfl⟩
set_option maxRecDepth 20000 in
theorem kV_Ump_175 : u_CV "UnmarkedPages" 175 0 mCod_bitsOfRow 1 := ⟨mo_Cod_bitsOfRow, uw_mem 663 rfl rfl, uw_mem 577 rfl rfl, uw_mem 578 rfl rfl, _, rfl, rfl⟩
set_option maxRecDepth 20000 in
theorem kV_Ump_223 : u_CV "UnmarkedPages" 223 6 mRow_countOf 1 := ⟨mo_Row_countOf, uw_mem 698 rfl rfl, uw_mem 379 rfl rfl, uw_mem 380 rfl rfl, _, rfl, rfl⟩
set_option maxRecDepth 20000 in
theorem kV_Ump_229 : u_CV "UnmarkedPages" 229 3 mPag_keySet 1 := ⟨mo_Pag_keySet, uw_mem 699 rfl rfl, uw_mem 534 rfl rfl, uw_mem 535 rfl rfl, _, rfl, rfl⟩
set_option maxRecDepth 20000 in
theorem kV_Ump_232 : u_CV "UnmarkedPages" 232 6 mRow_placeOf 1 := ⟨mo_Row_placeOf, uw_mem 700 rfl rfl, uw_mem 701 rfl rfl, uw_mem 702 rfl rfl, _, rfl, rfl⟩
set_option maxRecDepth 20000 in
theorem kV_Ump_238 : u_CV "UnmarkedPages" 238 4 mPth_partCount 0 := ⟨mo_Pth_partCount, uw_mem 704 rfl rfl, uw_mem 705 rfl rfl, uw_mem 706 rfl rfl, _, rfl, rfl⟩
set_option maxRecDepth 20000 in
theorem kV_Mod_127 : u_CV "UnmarkedPagesModel" 127 9 mMod_readNotes 2 := ⟨mo_Mod_readNotes, uw_mem 906 rfl rfl, uw_mem 908 rfl rfl, uw_mem 35 rfl rfl, _, rfl, rfl⟩
set_option maxRecDepth 20000 in
theorem kV_Kno_44 : u_CV "UnmarkedPages$Known" 44 0 mCod_clear 0 := ⟨mo_Cod_clear, uw_mem 499 rfl rfl, uw_mem 500 rfl rfl, uw_mem 501 rfl rfl, _, rfl, rfl⟩
set_option maxRecDepth 20000 in
theorem kV_Kno_53 : u_CV "UnmarkedPages$Known" 53 6 mRow_become 1 := ⟨mo_Row_become, uw_mem 504 rfl rfl, uw_mem 347 rfl rfl, uw_mem 348 rfl rfl, _, rfl, rfl⟩
set_option maxRecDepth 20000 in
theorem kV_Kno_60 : u_CV "UnmarkedPages$Known" 60 6 mRow_size 0 := ⟨mo_Row_size, uw_mem 505 rfl rfl, uw_mem 400 rfl rfl, uw_mem 401 rfl rfl, _, rfl, rfl⟩
set_option maxRecDepth 20000 in
theorem kV_Kno_66 : u_CV "UnmarkedPages$Known" 66 2 mKno_takeName 3 := ⟨mo_Kno_takeName, uw_mem 506 rfl rfl, uw_mem 508 rfl rfl, uw_mem 14 rfl rfl, _, rfl, rfl⟩
set_option maxRecDepth 20000 in
theorem kV_Kno_73 : u_CV "UnmarkedPages$Known" 73 2 mKno_takeNotes 3 := ⟨mo_Kno_takeNotes, uw_mem 529 rfl rfl, uw_mem 531 rfl rfl, uw_mem 15 rfl rfl, _, rfl, rfl⟩
set_option maxRecDepth 20000 in
theorem kV_Kno_81 : u_CV "UnmarkedPages$Known" 81 2 mKno_takeWord 3 := ⟨mo_Kno_takeWord, uw_mem 566 rfl rfl, uw_mem 568 rfl rfl, uw_mem 17 rfl rfl, _, rfl, rfl⟩
set_option maxRecDepth 20000 in
theorem kV_Rea_67 : u_CV "UnmarkedPages$Reader" 67 5 mRea_takeBehindMark 3 := ⟨mo_Rea_takeBehindMark, uw_mem 420 rfl rfl, uw_mem 422 rfl rfl, uw_mem 4 rfl rfl, _, rfl, rfl⟩
set_option maxRecDepth 20000 in
theorem kV_Rea_70 : u_CV "UnmarkedPages$Reader" 70 5 mRea_takeKey 2 := ⟨mo_Rea_takeKey, uw_mem 454 rfl rfl, uw_mem 456 rfl rfl, uw_mem 8 rfl rfl, _, rfl, rfl⟩
set_option maxRecDepth 20000 in
theorem kV_Rea_74 : u_CV "UnmarkedPages$Reader" 74 5 mRea_takeInBox 2 := ⟨mo_Rea_takeInBox, uw_mem 459 rfl rfl, uw_mem 461 rfl rfl, uw_mem 9 rfl rfl, _, rfl, rfl⟩
set_option maxRecDepth 20000 in
theorem kV_Rea_77 : u_CV "UnmarkedPages$Reader" 77 5 mRea_takeClosingName 3 := ⟨mo_Rea_takeClosingName, uw_mem 474 rfl rfl, uw_mem 476 rfl rfl, uw_mem 10 rfl rfl, _, rfl, rfl⟩
set_option maxRecDepth 20000 in
theorem kV_Rea_80 : u_CV "UnmarkedPages$Reader" 80 5 mRea_takeClosingEnd 2 := ⟨mo_Rea_takeClosingEnd, uw_mem 482 rfl rfl, uw_mem 484 rfl rfl, uw_mem 12 rfl rfl, _, rfl, rfl⟩
set_option maxRecDepth 20000 in
theorem kV_Sta_30 : u_CV "UnmarkedPages$State" 30 6 mRow_become 1 := ⟨mo_Row_become, uw_mem 346 rfl rfl, uw_mem 347 rfl rfl, uw_mem 348 rfl rfl, _, rfl, rfl⟩
set_option maxRecDepth 20000 in
theorem kV_Sta_42 : u_CV "UnmarkedPages$State" 42 7 mSta_addPage 1 := ⟨mo_Sta_addPage, uw_mem 357 rfl rfl, uw_mem 358 rfl rfl, uw_mem 359 rfl rfl, _, rfl, rfl⟩
set_option maxRecDepth 20000 in
theorem kI_Ump_1 : Cond.methodLink "UnmarkedPages" 1 Lib.objectInit ∈ uw_W := uw_mem 70 rfl rfl
set_option maxRecDepth 20000 in
theorem kI_Ump_11 : u_CI "UnmarkedPages" 11 mRow_init 1 := ⟨mo_Row_init, Or.inl (uw_mem 75 rfl rfl), uw_mem 76 rfl rfl, rfl, rfl⟩
set_option maxRecDepth 20000 in
theorem kI_Ump_20 : u_CI "UnmarkedPages" 20 mRea_init 0 := ⟨mo_Rea_init, Or.inr ⟨"UnmarkedPages", by decide +kernel⟩, uw_mem 93 rfl rfl, rfl, rfl⟩
set_option maxRecDepth 20000 in
theorem kI_Ump_27 : u_CI "UnmarkedPages" 27 mPth_init 0 := ⟨mo_Pth_init, Or.inr ⟨"UnmarkedPages", by decide +kernel⟩, uw_mem 179 rfl rfl, rfl, rfl⟩
set_option maxRecDepth 20000 in
theorem kI_Ump_34 : u_CI "UnmarkedPages" 34 mSta_init 0 := ⟨mo_Sta_init, Or.inl (uw_mem 196 rfl rfl), uw_mem 197 rfl rfl, rfl, rfl⟩
set_option maxRecDepth 20000 in
theorem kI_Ump_48 : u_CI "UnmarkedPages" 48 mKno_init 0 := ⟨mo_Kno_init, Or.inl (uw_mem 223 rfl rfl), uw_mem 224 rfl rfl, rfl, rfl⟩
set_option maxRecDepth 20000 in
theorem kI_Ump_62 : u_CI "UnmarkedPages" 62 mCod_init 0 := ⟨mo_Cod_init, Or.inr ⟨"UnmarkedPages", by decide +kernel⟩, uw_mem 264 rfl rfl, rfl, rfl⟩
set_option maxRecDepth 20000 in
theorem kV_Ump_181 : u_CV "UnmarkedPages" 181 4 mPth_readFault 1 := ⟨mo_Pth_readFault, uw_mem 672 rfl rfl, uw_mem 673 rfl rfl, uw_mem 674 rfl rfl, _, rfl, rfl⟩
set_option maxRecDepth 20000 in
theorem kV_Ump_185 : u_CV "UnmarkedPages" 185 4 mPth_boxIn 1 := ⟨mo_Pth_boxIn, uw_mem 686 rfl rfl, uw_mem 687 rfl rfl, uw_mem 688 rfl rfl, _, rfl, rfl⟩
set_option maxRecDepth 20000 in
theorem kV_Ump_189 : u_CV "UnmarkedPages" 189 8 mUmp_toldOfBox 3 := ⟨mo_Ump_toldOfBox, uw_mem 694 rfl rfl, uw_mem 696 rfl rfl, uw_mem 21 rfl rfl, _, rfl, rfl⟩
set_option maxRecDepth 20000 in
theorem kV_Ump_82 : u_CV "UnmarkedPages" 82 7 mSta_ruleCount 0 := ⟨mo_Sta_ruleCount, uw_mem 374 rfl rfl, uw_mem 375 rfl rfl, uw_mem 376 rfl rfl, _, rfl, rfl⟩
set_option maxRecDepth 20000 in
theorem kV_Ump_126 : u_CV "UnmarkedPages" 126 8 mUmp_bitsOfAllPages 0 := ⟨mo_Ump_bitsOfAllPages, uw_mem 614 rfl rfl, uw_mem 616 rfl rfl, uw_mem 19 rfl rfl, _, rfl, rfl⟩
set_option maxRecDepth 20000 in
theorem kV_Ump_207 : u_CV "UnmarkedPages" 207 7 mSta_letterCount 0 := ⟨mo_Sta_letterCount, uw_mem 727 rfl rfl, uw_mem 728 rfl rfl, uw_mem 729 rfl rfl, _, rfl, rfl⟩
set_option maxRecDepth 20000 in
theorem kV_Ump_214 : u_CV "UnmarkedPages" 214 7 mSta_stepCount 1 := ⟨mo_Sta_stepCount, uw_mem 732 rfl rfl, uw_mem 733 rfl rfl, uw_mem 734 rfl rfl, _, rfl, rfl⟩
set_option maxRecDepth 20000 in
theorem kV_Mod_130 : u_CV "UnmarkedPagesModel" 130 9 mMod_readWord 1 := ⟨mo_Mod_readWord, uw_mem 874 rfl rfl, uw_mem 876 rfl rfl, uw_mem 27 rfl rfl, _, rfl, rfl⟩
set_option maxRecDepth 20000 in
theorem kV_Mod_134 : u_CV "UnmarkedPagesModel" 134 9 mMod_closes 1 := ⟨mo_Mod_closes, uw_mem 894 rfl rfl, uw_mem 896 rfl rfl, uw_mem 32 rfl rfl, _, rfl, rfl⟩
set_option maxRecDepth 20000 in
theorem kV_Mod_137 : u_CV "UnmarkedPagesModel" 137 9 mMod_opens 1 := ⟨mo_Mod_opens, uw_mem 902 rfl rfl, uw_mem 904 rfl rfl, uw_mem 34 rfl rfl, _, rfl, rfl⟩
set_option maxRecDepth 20000 in
theorem kV_Rea_34 : u_CV "UnmarkedPages$Reader" 34 3 mPag_clear 0 := ⟨mo_Pag_clear, uw_mem 390 rfl rfl, uw_mem 391 rfl rfl, uw_mem 392 rfl rfl, _, rfl, rfl⟩
set_option maxRecDepth 20000 in
theorem kV_Rea_37 : u_CV "UnmarkedPages$Reader" 37 6 mRow_clear 0 := ⟨mo_Row_clear, uw_mem 398 rfl rfl, uw_mem 395 rfl rfl, uw_mem 396 rfl rfl, _, rfl, rfl⟩
set_option maxRecDepth 20000 in
theorem kV_Rea_55 : u_CV "UnmarkedPages$Reader" 55 5 mRea_take 3 := ⟨mo_Rea_take, uw_mem 408 rfl rfl, uw_mem 410 rfl rfl, uw_mem 1 rfl rfl, _, rfl, rfl⟩
set_option maxRecDepth 20000 in
theorem kV_Ump_150 : u_CV "UnmarkedPages" 150 7 mSta_become 1 := ⟨mo_Sta_become, uw_mem 342 rfl rfl, uw_mem 343 rfl rfl, uw_mem 344 rfl rfl, _, rfl, rfl⟩
set_option maxRecDepth 20000 in
theorem kV_Ump_178 : u_CV "UnmarkedPages" 178 2 mKno_forget 0 := ⟨mo_Kno_forget, uw_mem 597 rfl rfl, uw_mem 598 rfl rfl, uw_mem 599 rfl rfl, _, rfl, rfl⟩
set_option maxRecDepth 20000 in
theorem kV_Ump_113 : u_CV "UnmarkedPages" 113 2 mKno_take 2 := ⟨mo_Kno_take, uw_mem 495 rfl rfl, uw_mem 496 rfl rfl, uw_mem 497 rfl rfl, _, rfl, rfl⟩
set_option maxRecDepth 20000 in
theorem kV_Mod_143 : u_CV "UnmarkedPagesModel" 143 9 mMod_isPage 0 := ⟨mo_Mod_isPage, uw_mem 866 rfl rfl, uw_mem 868 rfl rfl, uw_mem 25 rfl rfl, _, rfl, rfl⟩
set_option maxRecDepth 20000 in
theorem kV_Mod_194 : u_CV "UnmarkedPagesModel" 194 9 mMod_takesText 0 := ⟨mo_Mod_takesText, uw_mem 862 rfl rfl, uw_mem 864 rfl rfl, uw_mem 24 rfl rfl, _, rfl, rfl⟩
set_option maxRecDepth 20000 in
theorem kV_Ump_71 : u_CV "UnmarkedPages" 71 7 mSta_ends 2 := ⟨mo_Sta_ends, uw_mem 330 rfl rfl, uw_mem 331 rfl rfl, uw_mem 332 rfl rfl, _, rfl, rfl⟩
set_option maxRecDepth 20000 in
theorem kV_Ump_75 : u_CV "UnmarkedPages" 75 8 mUmp_recordState 0 := ⟨mo_Ump_recordState, uw_mem 338 rfl rfl, uw_mem 340 rfl rfl, uw_mem 0 rfl rfl, _, rfl, rfl⟩
set_option maxRecDepth 20000 in
theorem kV_Ump_78 : u_CV "UnmarkedPages" 78 7 mSta_setEnds 3 := ⟨mo_Sta_setEnds, uw_mem 366 rfl rfl, uw_mem 367 rfl rfl, uw_mem 368 rfl rfl, _, rfl, rfl⟩
set_option maxRecDepth 20000 in
theorem kV_Ump_86 : u_CV "UnmarkedPages" 86 5 mRea_read 2 := ⟨mo_Rea_read, uw_mem 386 rfl rfl, uw_mem 387 rfl rfl, uw_mem 388 rfl rfl, _, rfl, rfl⟩
set_option maxRecDepth 20000 in
theorem kV_Ump_90 : u_CV "UnmarkedPages" 90 5 mRea_hasFault 0 := ⟨mo_Rea_hasFault, uw_mem 486 rfl rfl, uw_mem 487 rfl rfl, uw_mem 488 rfl rfl, _, rfl, rfl⟩
set_option maxRecDepth 20000 in
theorem kV_Ump_109 : u_CV "UnmarkedPages" 109 7 mSta_addPage 1 := ⟨mo_Sta_addPage, uw_mem 494 rfl rfl, uw_mem 358 rfl rfl, uw_mem 359 rfl rfl, _, rfl, rfl⟩
set_option maxRecDepth 20000 in
theorem kV_Ump_120 : u_CV "UnmarkedPages" 120 8 mUmp_packAnew 0 := ⟨mo_Ump_packAnew, uw_mem 593 rfl rfl, uw_mem 595 rfl rfl, uw_mem 18 rfl rfl, _, rfl, rfl⟩
set_option maxRecDepth 20000 in
theorem kV_Ump_129 : u_CV "UnmarkedPages" 129 7 mSta_bringToFront 1 := ⟨mo_Sta_bringToFront, uw_mem 618 rfl rfl, uw_mem 619 rfl rfl, uw_mem 620 rfl rfl, _, rfl, rfl⟩
set_option maxRecDepth 20000 in
theorem kV_Mod_165 : u_CV "UnmarkedPagesModel" 165 9 mMod_forgets 0 := ⟨mo_Mod_forgets, uw_mem 917 rfl rfl, uw_mem 919 rfl rfl, uw_mem 37 rfl rfl, _, rfl, rfl⟩
set_option maxRecDepth 20000 in
theorem kV_Mod_168 : u_CV "UnmarkedPagesModel" 168 9 mMod_takesPage 1 := ⟨mo_Mod_takesPage, uw_mem 921 rfl rfl, uw_mem 923 rfl rfl, uw_mem 38 rfl rfl, _, rfl, rfl⟩
set_option maxRecDepth 20000 in
theorem kV_Mod_171 : u_CV "UnmarkedPagesModel" 171 9 mMod_packs 0 := ⟨mo_Mod_packs, uw_mem 925 rfl rfl, uw_mem 927 rfl rfl, uw_mem 39 rfl rfl, _, rfl, rfl⟩
set_option maxRecDepth 20000 in
theorem kV_Mod_180 : u_CV "UnmarkedPagesModel" 180 9 mMod_pageBits 0 := ⟨mo_Mod_pageBits, uw_mem 949 rfl rfl, uw_mem 951 rfl rfl, uw_mem 45 rfl rfl, _, rfl, rfl⟩
set_option maxRecDepth 20000 in
theorem kV_Mod_210 : u_CV "UnmarkedPagesModel" 210 9 mMod_partsOfText 0 := ⟨mo_Mod_partsOfText, uw_mem 1020 rfl rfl, uw_mem 1022 rfl rfl, uw_mem 49 rfl rfl, _, rfl, rfl⟩
set_option maxRecDepth 20000 in
theorem kV_Mod_213 : u_CV "UnmarkedPagesModel" 213 9 mMod_inner 3 := ⟨mo_Mod_inner, uw_mem 1024 rfl rfl, uw_mem 1026 rfl rfl, uw_mem 50 rfl rfl, _, rfl, rfl⟩
set_option maxRecDepth 20000 in
theorem kV_Mod_197 : u_CV "UnmarkedPagesModel" 197 9 mMod_packsUpTo 1 := ⟨mo_Mod_packsUpTo, uw_mem 913 rfl rfl, uw_mem 915 rfl rfl, uw_mem 36 rfl rfl, _, rfl, rfl⟩
set_option maxRecDepth 20000 in
theorem kV_Mod_203 : u_CV "UnmarkedPagesModel" 203 9 mMod_allBits 0 := ⟨mo_Mod_allBits, uw_mem 972 rfl rfl, uw_mem 974 rfl rfl, uw_mem 48 rfl rfl, _, rfl, rfl⟩
set_option maxRecDepth 20000 in
theorem kV_Mod_216 : u_CV "UnmarkedPagesModel" 216 9 mMod_overPages 1 := ⟨mo_Mod_overPages, uw_mem 1040 rfl rfl, uw_mem 1042 rfl rfl, uw_mem 51 rfl rfl, _, rfl, rfl⟩
set_option maxRecDepth 20000 in
theorem kI_Law_9 : u_CI "UnmarkedPagesLaw" 9 mUmp_init 0 := ⟨mo_Ump_init, Or.inl (uw_mem 67 rfl rfl), uw_mem 68 rfl rfl, rfl, rfl⟩
set_option maxRecDepth 20000 in
theorem kI_Law_12 : u_CI "UnmarkedPagesLaw" 12 mMod_init 0 := ⟨mo_Mod_init, Or.inl (uw_mem 738 rfl rfl), uw_mem 739 rfl rfl, rfl, rfl⟩
set_option maxRecDepth 20000 in
theorem kV_Law_13 : u_CV "UnmarkedPagesLaw" 13 8 mUmp_rule 3 := ⟨mo_Ump_rule, uw_mem 323 rfl rfl, uw_mem 324 rfl rfl, uw_mem 325 rfl rfl, _, rfl, rfl⟩
set_option maxRecDepth 20000 in
theorem kV_Law_17 : u_CV "UnmarkedPagesLaw" 17 9 mMod_rule 3 := ⟨mo_Mod_rule, uw_mem 840 rfl rfl, uw_mem 841 rfl rfl, uw_mem 842 rfl rfl, _, rfl, rfl⟩
set_option maxRecDepth 20000 in
theorem kV_Law_18 : u_CV "UnmarkedPagesLaw" 18 8 mUmp_pack 0 := ⟨mo_Ump_pack, uw_mem 382 rfl rfl, uw_mem 383 rfl rfl, uw_mem 384 rfl rfl, _, rfl, rfl⟩
set_option maxRecDepth 20000 in
theorem kV_Law_22 : u_CV "UnmarkedPagesLaw" 22 9 mMod_pack 0 := ⟨mo_Mod_pack, uw_mem 858 rfl rfl, uw_mem 859 rfl rfl, uw_mem 860 rfl rfl, _, rfl, rfl⟩
set_option maxRecDepth 20000 in
theorem kV_Law_23 : u_CV "UnmarkedPagesLaw" 23 8 mUmp_unpackLast 0 := ⟨mo_Ump_unpackLast, uw_mem 589 rfl rfl, uw_mem 590 rfl rfl, uw_mem 591 rfl rfl, _, rfl, rfl⟩
set_option maxRecDepth 20000 in
theorem kV_Law_26 : u_CV "UnmarkedPagesLaw" 26 9 mMod_unpackLast 0 := ⟨mo_Mod_unpackLast, uw_mem 960 rfl rfl, uw_mem 961 rfl rfl, uw_mem 962 rfl rfl, _, rfl, rfl⟩
set_option maxRecDepth 20000 in
theorem kV_Law_27 : u_CV "UnmarkedPagesLaw" 27 8 mUmp_first 1 := ⟨mo_Ump_first, uw_mem 606 rfl rfl, uw_mem 607 rfl rfl, uw_mem 608 rfl rfl, _, rfl, rfl⟩
set_option maxRecDepth 20000 in
theorem kV_Law_31 : u_CV "UnmarkedPagesLaw" 31 9 mMod_first 1 := ⟨mo_Mod_first, uw_mem 964 rfl rfl, uw_mem 965 rfl rfl, uw_mem 966 rfl rfl, _, rfl, rfl⟩
set_option maxRecDepth 20000 in
theorem kV_Law_32 : u_CV "UnmarkedPagesLaw" 32 8 mUmp_type 1 := ⟨mo_Ump_type, uw_mem 622 rfl rfl, uw_mem 623 rfl rfl, uw_mem 624 rfl rfl, _, rfl, rfl⟩
set_option maxRecDepth 20000 in
theorem kV_Law_36 : u_CV "UnmarkedPagesLaw" 36 9 mMod_type 1 := ⟨mo_Mod_type, uw_mem 976 rfl rfl, uw_mem 977 rfl rfl, uw_mem 978 rfl rfl, _, rfl, rfl⟩
set_option maxRecDepth 20000 in
theorem kV_Law_37 : u_CV "UnmarkedPagesLaw" 37 8 mUmp_clearText 0 := ⟨mo_Ump_clearText, uw_mem 628 rfl rfl, uw_mem 629 rfl rfl, uw_mem 630 rfl rfl, _, rfl, rfl⟩
set_option maxRecDepth 20000 in
theorem kV_Law_40 : u_CV "UnmarkedPagesLaw" 40 9 mMod_clearText 0 := ⟨mo_Mod_clearText, uw_mem 980 rfl rfl, uw_mem 981 rfl rfl, uw_mem 982 rfl rfl, _, rfl, rfl⟩
set_option maxRecDepth 20000 in
theorem kV_Law_41 : u_CV "UnmarkedPagesLaw" 41 8 mUmp_fault 1 := ⟨mo_Ump_fault, uw_mem 633 rfl rfl, uw_mem 634 rfl rfl, uw_mem 635 rfl rfl, _, rfl, rfl⟩
set_option maxRecDepth 20000 in
theorem kV_Law_44 : u_CV "UnmarkedPagesLaw" 44 9 mMod_fault 1 := ⟨mo_Mod_fault, uw_mem 984 rfl rfl, uw_mem 985 rfl rfl, uw_mem 986 rfl rfl, _, rfl, rfl⟩
set_option maxRecDepth 20000 in
theorem kV_Law_45 : u_CV "UnmarkedPagesLaw" 45 8 mUmp_undo 0 := ⟨mo_Ump_undo, uw_mem 637 rfl rfl, uw_mem 638 rfl rfl, uw_mem 639 rfl rfl, _, rfl, rfl⟩
set_option maxRecDepth 20000 in
theorem kV_Law_48 : u_CV "UnmarkedPagesLaw" 48 9 mMod_undo 0 := ⟨mo_Mod_undo, uw_mem 988 rfl rfl, uw_mem 989 rfl rfl, uw_mem 990 rfl rfl, _, rfl, rfl⟩
set_option maxRecDepth 20000 in
theorem kV_Law_49 : u_CV "UnmarkedPagesLaw" 49 8 mUmp_keep 0 := ⟨mo_Ump_keep, uw_mem 641 rfl rfl, uw_mem 642 rfl rfl, uw_mem 643 rfl rfl, _, rfl, rfl⟩
set_option maxRecDepth 20000 in
theorem kV_Law_52 : u_CV "UnmarkedPagesLaw" 52 9 mMod_keep 0 := ⟨mo_Mod_keep, uw_mem 992 rfl rfl, uw_mem 993 rfl rfl, uw_mem 994 rfl rfl, _, rfl, rfl⟩
set_option maxRecDepth 20000 in
theorem kV_Law_53 : u_CV "UnmarkedPagesLaw" 53 8 mUmp_restore 0 := ⟨mo_Ump_restore, uw_mem 645 rfl rfl, uw_mem 646 rfl rfl, uw_mem 647 rfl rfl, _, rfl, rfl⟩
set_option maxRecDepth 20000 in
theorem kV_Law_56 : u_CV "UnmarkedPagesLaw" 56 9 mMod_restore 0 := ⟨mo_Mod_restore, uw_mem 996 rfl rfl, uw_mem 997 rfl rfl, uw_mem 998 rfl rfl, _, rfl, rfl⟩
set_option maxRecDepth 20000 in
theorem kV_Law_57 : u_CV "UnmarkedPagesLaw" 57 8 mUmp_charAt 2 := ⟨mo_Ump_charAt, uw_mem 649 rfl rfl, uw_mem 650 rfl rfl, uw_mem 651 rfl rfl, _, rfl, rfl⟩
set_option maxRecDepth 20000 in
theorem kV_Law_61 : u_CV "UnmarkedPagesLaw" 61 9 mMod_charAt 2 := ⟨mo_Mod_charAt, uw_mem 1000 rfl rfl, uw_mem 1001 rfl rfl, uw_mem 1002 rfl rfl, _, rfl, rfl⟩
set_option maxRecDepth 20000 in
theorem kV_Law_62 : u_CV "UnmarkedPagesLaw" 62 8 mUmp_code 3 := ⟨mo_Ump_code, uw_mem 654 rfl rfl, uw_mem 655 rfl rfl, uw_mem 656 rfl rfl, _, rfl, rfl⟩
set_option maxRecDepth 20000 in
theorem kV_Law_66 : u_CV "UnmarkedPagesLaw" 66 9 mMod_code 3 := ⟨mo_Mod_code, uw_mem 1004 rfl rfl, uw_mem 1005 rfl rfl, uw_mem 1006 rfl rfl, _, rfl, rfl⟩
set_option maxRecDepth 20000 in
theorem kV_Law_67 : u_CV "UnmarkedPagesLaw" 67 8 mUmp_bits 2 := ⟨mo_Ump_bits, uw_mem 659 rfl rfl, uw_mem 660 rfl rfl, uw_mem 661 rfl rfl, _, rfl, rfl⟩
set_option maxRecDepth 20000 in
theorem kV_Law_70 : u_CV "UnmarkedPagesLaw" 70 9 mMod_bits 2 := ⟨mo_Mod_bits, uw_mem 1008 rfl rfl, uw_mem 1009 rfl rfl, uw_mem 1010 rfl rfl, _, rfl, rfl⟩
set_option maxRecDepth 20000 in
theorem kV_Law_71 : u_CV "UnmarkedPagesLaw" 71 8 mUmp_wouldTake 1 := ⟨mo_Ump_wouldTake, uw_mem 664 rfl rfl, uw_mem 665 rfl rfl, uw_mem 666 rfl rfl, _, rfl, rfl⟩
set_option maxRecDepth 20000 in
theorem kV_Law_75 : u_CV "UnmarkedPagesLaw" 75 9 mMod_wouldTake 1 := ⟨mo_Mod_wouldTake, uw_mem 1012 rfl rfl, uw_mem 1013 rfl rfl, uw_mem 1014 rfl rfl, _, rfl, rfl⟩
set_option maxRecDepth 20000 in
theorem kV_Law_76 : u_CV "UnmarkedPagesLaw" 76 8 mUmp_path 2 := ⟨mo_Ump_path, uw_mem 668 rfl rfl, uw_mem 669 rfl rfl, uw_mem 670 rfl rfl, _, rfl, rfl⟩
set_option maxRecDepth 20000 in
theorem kV_Law_79 : u_CV "UnmarkedPagesLaw" 79 9 mMod_path 2 := ⟨mo_Mod_path, uw_mem 1016 rfl rfl, uw_mem 1017 rfl rfl, uw_mem 1018 rfl rfl, _, rfl, rfl⟩
set_option maxRecDepth 20000 in
theorem kV_Law_80 : u_CV "UnmarkedPagesLaw" 80 8 mUmp_known 2 := ⟨mo_Ump_known, uw_mem 708 rfl rfl, uw_mem 709 rfl rfl, uw_mem 710 rfl rfl, _, rfl, rfl⟩
set_option maxRecDepth 20000 in
theorem kV_Law_83 : u_CV "UnmarkedPagesLaw" 83 9 mMod_known 2 := ⟨mo_Mod_known, uw_mem 1028 rfl rfl, uw_mem 1029 rfl rfl, uw_mem 1030 rfl rfl, _, rfl, rfl⟩
set_option maxRecDepth 20000 in
theorem kV_Law_84 : u_CV "UnmarkedPagesLaw" 84 8 mUmp_latest 2 := ⟨mo_Ump_latest, uw_mem 718 rfl rfl, uw_mem 719 rfl rfl, uw_mem 720 rfl rfl, _, rfl, rfl⟩
set_option maxRecDepth 20000 in
theorem kV_Law_87 : u_CV "UnmarkedPagesLaw" 87 9 mMod_latest 2 := ⟨mo_Mod_latest, uw_mem 1032 rfl rfl, uw_mem 1033 rfl rfl, uw_mem 1034 rfl rfl, _, rfl, rfl⟩
set_option maxRecDepth 20000 in
theorem kV_Law_88 : u_CV "UnmarkedPagesLaw" 88 8 mUmp_count 1 := ⟨mo_Ump_count, uw_mem 723 rfl rfl, uw_mem 724 rfl rfl, uw_mem 725 rfl rfl, _, rfl, rfl⟩
set_option maxRecDepth 20000 in
theorem kV_Law_91 : u_CV "UnmarkedPagesLaw" 91 9 mMod_count 1 := ⟨mo_Mod_count, uw_mem 1036 rfl rfl, uw_mem 1037 rfl rfl, uw_mem 1038 rfl rfl, _, rfl, rfl⟩
set_option maxRecDepth 20000 in
theorem w_oi : Cond.instanceMethod Lib.objectInit ∈ uw_W := uw_mem 71 rfl rfl
set_option maxRecDepth 20000 in
theorem w_oc : Cond.code Lib.objectInit ⟨#[0xb1]⟩ 1 none ∈ uw_W := uw_mem 72 rfl rfl
set_option maxRecDepth 20000 in
theorem w_mi : Cond.initialized "java/lang/Math" ∈ uw_W := uw_mem 55 rfl rfl
set_option maxRecDepth 20000 in
theorem w_maxs : Cond.static Lib.Math.max.name ∈ uw_W := uw_mem 80 rfl rfl
set_option maxRecDepth 20000 in
theorem w_maxc : Cond.code Lib.Math.max.name Lib.Math.max.code 2 (some .int) ∈ uw_W := uw_mem 81 rfl rfl
set_option maxRecDepth 20000 in
theorem w_mins : Cond.static Lib.Math.min.name ∈ uw_W := uw_mem 351 rfl rfl
set_option maxRecDepth 20000 in
theorem w_minc : Cond.code Lib.Math.min.name Lib.Math.min.code 2 (some .int) ∈ uw_W := uw_mem 352 rfl rfl
set_option maxRecDepth 20000 in
theorem kC_Cod_9 : Cond.classLink "UnmarkedPages$Codes" 9 "UnmarkedPages$Row" ∈ uw_W := uw_mem 267 rfl rfl
set_option maxRecDepth 20000 in
theorem kC_Kno_9 : Cond.classLink "UnmarkedPages$Known" 9 "UnmarkedPages$FrontList" ∈ uw_W := uw_mem 227 rfl rfl
set_option maxRecDepth 20000 in
theorem kC_Kno_24 : Cond.classLink "UnmarkedPages$Known" 24 "UnmarkedPages$Row" ∈ uw_W := uw_mem 243 rfl rfl
set_option maxRecDepth 20000 in
theorem kC_Pag_9 : Cond.classLink "UnmarkedPages$Page" 9 "UnmarkedPages$Row" ∈ uw_W := uw_mem 102 rfl rfl
set_option maxRecDepth 20000 in
theorem kC_Pth_9 : Cond.classLink "UnmarkedPages$PathReader" 9 "UnmarkedPages$Row" ∈ uw_W := uw_mem 182 rfl rfl
set_option maxRecDepth 20000 in
theorem kC_Rea_9 : Cond.classLink "UnmarkedPages$Reader" 9 "UnmarkedPages$Page" ∈ uw_W := uw_mem 96 rfl rfl
set_option maxRecDepth 20000 in
theorem kC_Rea_22 : Cond.classLink "UnmarkedPages$Reader" 22 "UnmarkedPages$Row" ∈ uw_W := uw_mem 148 rfl rfl
set_option maxRecDepth 20000 in
theorem kC_Sta_9 : Cond.classLink "UnmarkedPages$State" 9 "UnmarkedPages$Row" ∈ uw_W := uw_mem 200 rfl rfl
set_option maxRecDepth 20000 in
theorem kC_Sta_20 : Cond.classLink "UnmarkedPages$State" 20 "UnmarkedPages$Page" ∈ uw_W := uw_mem 202 rfl rfl
set_option maxRecDepth 20000 in
theorem kC_Ump_7 : Cond.classLink "UnmarkedPages" 7 "UnmarkedPages$Row" ∈ uw_W := uw_mem 73 rfl rfl
set_option maxRecDepth 20000 in
theorem kC_Ump_18 : Cond.classLink "UnmarkedPages" 18 "UnmarkedPages$Reader" ∈ uw_W := uw_mem 90 rfl rfl
set_option maxRecDepth 20000 in
theorem kC_Ump_25 : Cond.classLink "UnmarkedPages" 25 "UnmarkedPages$PathReader" ∈ uw_W := uw_mem 176 rfl rfl
set_option maxRecDepth 20000 in
theorem kC_Ump_32 : Cond.classLink "UnmarkedPages" 32 "UnmarkedPages$State" ∈ uw_W := uw_mem 194 rfl rfl
set_option maxRecDepth 20000 in
theorem kC_Ump_46 : Cond.classLink "UnmarkedPages" 46 "UnmarkedPages$Known" ∈ uw_W := uw_mem 221 rfl rfl
set_option maxRecDepth 20000 in
theorem kC_Ump_53 : Cond.classLink "UnmarkedPages" 53 "UnmarkedPages$Codes" ∈ uw_W := uw_mem 260 rfl rfl
set_option maxRecDepth 20000 in
theorem kC_Law_7 : Cond.classLink "UnmarkedPagesLaw" 7 "UnmarkedPages" ∈ uw_W := uw_mem 65 rfl rfl
set_option maxRecDepth 20000 in
theorem kC_Law_10 : Cond.classLink "UnmarkedPagesLaw" 10 "UnmarkedPagesModel" ∈ uw_W := uw_mem 736 rfl rfl
set_option maxRecDepth 20000 in
theorem w_aint : Cond.arrayClass .int ∈ uw_W := uw_mem 89 rfl rfl
set_option maxRecDepth 20000 in
theorem w_along : Cond.arrayClass .long ∈ uw_W := uw_mem 242 rfl rfl
set_option maxRecDepth 20000 in
theorem w_achar : Cond.arrayClass .char ∈ uw_W := uw_mem 839 rfl rfl
set_option maxRecDepth 20000 in
theorem w_i265 : Cond.constant "java/lang/Integer" 265 (1431655765 : Int32) ∈ uw_W := uw_mem 559 rfl rfl
set_option maxRecDepth 20000 in
theorem w_i266 : Cond.constant "java/lang/Integer" 266 (858993459 : Int32) ∈ uw_W := uw_mem 560 rfl rfl
set_option maxRecDepth 20000 in
theorem w_i267 : Cond.constant "java/lang/Integer" 267 (252645135 : Int32) ∈ uw_W := uw_mem 561 rfl rfl
set_option maxRecDepth 20000 in
theorem w_l137 : Cond.constantLong "UnmarkedPages$Known" 137 (17 : Int64) ∈ uw_W := uw_mem 570 rfl rfl
set_option maxRecDepth 20000 in
theorem w_l142 : Cond.constantLong "UnmarkedPages$Known" 142 (103 : Int64) ∈ uw_W := uw_mem 571 rfl rfl
end
