section
-- ===== PART A: goes FIRST, ahead of the names: the tables' words, and 'selects' of the private methods out of them =====
/-- a private method of a class that the tables say can be made, by its rows of tables_1 -/
def lw_okq (q : MethodName × Nat) : Prop := (q.1.cls ≠ "java/lang/invoke/MethodHandle" ∧ q.1.cls ≠ "java/lang/invoke/VarHandle") ∧ Cond.instantiable q.1.cls q.2 ∈ tables_1 ∧ Cond.privateMethod q.1 ∈ tables_1 ∧ Cond.instanceMethod q.1 ∈ tables_1
theorem lw_p0 : lw_okq (⟨"FrameSheets", "refuse", "(I)I"⟩, 13) := ⟨⟨by decide +kernel, by decide +kernel⟩, List.mem_of_getElem? (i := 20) (by decide +kernel), List.mem_of_getElem? (i := 345) (by decide +kernel), List.mem_of_getElem? (i := 346) (by decide +kernel)⟩
theorem lw_p1 : lw_okq (⟨"FrameSheets", "tell", "(I)I"⟩, 13) := ⟨⟨by decide +kernel, by decide +kernel⟩, List.mem_of_getElem? (i := 20) (by decide +kernel), List.mem_of_getElem? (i := 367) (by decide +kernel), List.mem_of_getElem? (i := 368) (by decide +kernel)⟩
theorem lw_p2 : lw_okq (⟨"FrameSheets$Reader", "advance", "()V"⟩, 8) := ⟨⟨by decide +kernel, by decide +kernel⟩, List.mem_of_getElem? (i := 72) (by decide +kernel), List.mem_of_getElem? (i := 425) (by decide +kernel), List.mem_of_getElem? (i := 426) (by decide +kernel)⟩
theorem lw_p3 : lw_okq (⟨"FrameSheets$Reader", "readPage", "()Z"⟩, 8) := ⟨⟨by decide +kernel, by decide +kernel⟩, List.mem_of_getElem? (i := 72) (by decide +kernel), List.mem_of_getElem? (i := 435) (by decide +kernel), List.mem_of_getElem? (i := 436) (by decide +kernel)⟩
theorem lw_p4 : lw_okq (⟨"FrameSheets$Reader", "isAtWord", "(Ljava/lang/String;)Z"⟩, 8) := ⟨⟨by decide +kernel, by decide +kernel⟩, List.mem_of_getElem? (i := 72) (by decide +kernel), List.mem_of_getElem? (i := 440) (by decide +kernel), List.mem_of_getElem? (i := 441) (by decide +kernel)⟩
theorem lw_p5 : lw_okq (⟨"FrameSheets$Reader", "takeNumber", "(II)I"⟩, 8) := ⟨⟨by decide +kernel, by decide +kernel⟩, List.mem_of_getElem? (i := 72) (by decide +kernel), List.mem_of_getElem? (i := 492) (by decide +kernel), List.mem_of_getElem? (i := 493) (by decide +kernel)⟩
theorem lw_p6 : lw_okq (⟨"FrameSheets$Reader", "takeStop", "()Z"⟩, 8) := ⟨⟨by decide +kernel, by decide +kernel⟩, List.mem_of_getElem? (i := 72) (by decide +kernel), List.mem_of_getElem? (i := 496) (by decide +kernel), List.mem_of_getElem? (i := 497) (by decide +kernel)⟩
theorem lw_p7 : lw_okq (⟨"FrameSheets$Reader", "readStatement", "()Z"⟩, 8) := ⟨⟨by decide +kernel, by decide +kernel⟩, List.mem_of_getElem? (i := 72) (by decide +kernel), List.mem_of_getElem? (i := 500) (by decide +kernel), List.mem_of_getElem? (i := 501) (by decide +kernel)⟩
theorem lw_p8 : lw_okq (⟨"FrameSheets$Reader", "readBleed", "()Z"⟩, 8) := ⟨⟨by decide +kernel, by decide +kernel⟩, List.mem_of_getElem? (i := 72) (by decide +kernel), List.mem_of_getElem? (i := 505) (by decide +kernel), List.mem_of_getElem? (i := 506) (by decide +kernel)⟩
theorem lw_p9 : lw_okq (⟨"FrameSheets$Reader", "kindAtHand", "()I"⟩, 8) := ⟨⟨by decide +kernel, by decide +kernel⟩, List.mem_of_getElem? (i := 72) (by decide +kernel), List.mem_of_getElem? (i := 509) (by decide +kernel), List.mem_of_getElem? (i := 510) (by decide +kernel)⟩
theorem lw_p10 : lw_okq (⟨"FrameSheets$Reader", "readSides", "(LFrameSheets$Frame;)Z"⟩, 8) := ⟨⟨by decide +kernel, by decide +kernel⟩, List.mem_of_getElem? (i := 72) (by decide +kernel), List.mem_of_getElem? (i := 520) (by decide +kernel), List.mem_of_getElem? (i := 521) (by decide +kernel)⟩
theorem lw_p11 : lw_okq (⟨"FrameSheets$Reader", "readEmpty", "(LFrameSheets$Frame;)Z"⟩, 8) := ⟨⟨by decide +kernel, by decide +kernel⟩, List.mem_of_getElem? (i := 72) (by decide +kernel), List.mem_of_getElem? (i := 524) (by decide +kernel), List.mem_of_getElem? (i := 525) (by decide +kernel)⟩
theorem lw_p12 : lw_okq (⟨"FrameSheets", "hasNoSheet", "()Z"⟩, 13) := ⟨⟨by decide +kernel, by decide +kernel⟩, List.mem_of_getElem? (i := 20) (by decide +kernel), List.mem_of_getElem? (i := 556) (by decide +kernel), List.mem_of_getElem? (i := 557) (by decide +kernel)⟩
theorem lw_p13 : lw_okq (⟨"FrameSheets$Scribe", "addWord", "(Ljava/lang/String;)V"⟩, 2) := ⟨⟨by decide +kernel, by decide +kernel⟩, List.mem_of_getElem? (i := 212) (by decide +kernel), List.mem_of_getElem? (i := 565) (by decide +kernel), List.mem_of_getElem? (i := 566) (by decide +kernel)⟩
theorem lw_p14 : lw_okq (⟨"FrameSheets$Scribe", "addSign", "(I)V"⟩, 2) := ⟨⟨by decide +kernel, by decide +kernel⟩, List.mem_of_getElem? (i := 212) (by decide +kernel), List.mem_of_getElem? (i := 571) (by decide +kernel), List.mem_of_getElem? (i := 572) (by decide +kernel)⟩
theorem lw_p15 : lw_okq (⟨"FrameSheets$Scribe", "addNumber", "(I)V"⟩, 2) := ⟨⟨by decide +kernel, by decide +kernel⟩, List.mem_of_getElem? (i := 212) (by decide +kernel), List.mem_of_getElem? (i := 575) (by decide +kernel), List.mem_of_getElem? (i := 576) (by decide +kernel)⟩
def lw_privs_1 : List (MethodName × Nat) := [(⟨"FrameSheets", "refuse", "(I)I"⟩, 13), (⟨"FrameSheets", "tell", "(I)I"⟩, 13), (⟨"FrameSheets$Reader", "advance", "()V"⟩, 8), (⟨"FrameSheets$Reader", "readPage", "()Z"⟩, 8), (⟨"FrameSheets$Reader", "isAtWord", "(Ljava/lang/String;)Z"⟩, 8), (⟨"FrameSheets$Reader", "takeNumber", "(II)I"⟩, 8), (⟨"FrameSheets$Reader", "takeStop", "()Z"⟩, 8), (⟨"FrameSheets$Reader", "readStatement", "()Z"⟩, 8), (⟨"FrameSheets$Reader", "readBleed", "()Z"⟩, 8), (⟨"FrameSheets$Reader", "kindAtHand", "()I"⟩, 8), (⟨"FrameSheets$Reader", "readSides", "(LFrameSheets$Frame;)Z"⟩, 8), (⟨"FrameSheets$Reader", "readEmpty", "(LFrameSheets$Frame;)Z"⟩, 8), (⟨"FrameSheets", "hasNoSheet", "()Z"⟩, 13), (⟨"FrameSheets$Scribe", "addWord", "(Ljava/lang/String;)V"⟩, 2), (⟨"FrameSheets$Scribe", "addSign", "(I)V"⟩, 2), (⟨"FrameSheets$Scribe", "addNumber", "(I)V"⟩, 2)]
theorem lw_r1 : ∀ q ∈ lw_privs_1, lw_okq q := List.forall_mem_cons.mpr ⟨lw_p0, List.forall_mem_cons.mpr ⟨lw_p1, List.forall_mem_cons.mpr ⟨lw_p2, List.forall_mem_cons.mpr ⟨lw_p3, List.forall_mem_cons.mpr ⟨lw_p4, List.forall_mem_cons.mpr ⟨lw_p5, List.forall_mem_cons.mpr ⟨lw_p6, List.forall_mem_cons.mpr ⟨lw_p7, List.forall_mem_cons.mpr ⟨lw_p8, List.forall_mem_cons.mpr ⟨lw_p9, List.forall_mem_cons.mpr ⟨lw_p10, List.forall_mem_cons.mpr ⟨lw_p11, List.forall_mem_cons.mpr ⟨lw_p12, List.forall_mem_cons.mpr ⟨lw_p13, List.forall_mem_cons.mpr ⟨lw_p14, List.forall_mem_cons.mpr ⟨lw_p15, fun _ h => absurd h List.not_mem_nil⟩⟩⟩⟩⟩⟩⟩⟩⟩⟩⟩⟩⟩⟩⟩⟩
theorem lw_p16 : lw_okq (⟨"FrameSheets$Scribe", "writeFrame", "(LFrameSheets$Frame;)V"⟩, 2) := ⟨⟨by decide +kernel, by decide +kernel⟩, List.mem_of_getElem? (i := 212) (by decide +kernel), List.mem_of_getElem? (i := 580) (by decide +kernel), List.mem_of_getElem? (i := 581) (by decide +kernel)⟩
theorem lw_p17 : lw_okq (⟨"FrameSheets$Room", "cover", "(LFrameSheets$Frame;LFrameSheets$Layout;I)V"⟩, 5) := ⟨⟨by decide +kernel, by decide +kernel⟩, List.mem_of_getElem? (i := 233) (by decide +kernel), List.mem_of_getElem? (i := 678) (by decide +kernel), List.mem_of_getElem? (i := 679) (by decide +kernel)⟩
theorem lw_p18 : lw_okq (⟨"FrameSheets$Room", "findFree", "()V"⟩, 5) := ⟨⟨by decide +kernel, by decide +kernel⟩, List.mem_of_getElem? (i := 233) (by decide +kernel), List.mem_of_getElem? (i := 690) (by decide +kernel), List.mem_of_getElem? (i := 691) (by decide +kernel)⟩
theorem lw_p19 : lw_okq (⟨"FrameSheets$Room", "addRuns", "(IIIII)V"⟩, 5) := ⟨⟨by decide +kernel, by decide +kernel⟩, List.mem_of_getElem? (i := 233) (by decide +kernel), List.mem_of_getElem? (i := 694) (by decide +kernel), List.mem_of_getElem? (i := 695) (by decide +kernel)⟩
theorem lw_p20 : lw_okq (⟨"FrameSheets$Room", "insert", "(I)V"⟩, 5) := ⟨⟨by decide +kernel, by decide +kernel⟩, List.mem_of_getElem? (i := 233) (by decide +kernel), List.mem_of_getElem? (i := 698) (by decide +kernel), List.mem_of_getElem? (i := 699) (by decide +kernel)⟩
theorem lw_p21 : lw_okq (⟨"FrameSheets$Packer", "fillQueue", "(LFrameSheets$Sheet;I)V"⟩, 2) := ⟨⟨by decide +kernel, by decide +kernel⟩, List.mem_of_getElem? (i := 227) (by decide +kernel), List.mem_of_getElem? (i := 759) (by decide +kernel), List.mem_of_getElem? (i := 760) (by decide +kernel)⟩
theorem lw_p22 : lw_okq (⟨"FrameSheets", "isPage", "(I)Z"⟩, 13) := ⟨⟨by decide +kernel, by decide +kernel⟩, List.mem_of_getElem? (i := 20) (by decide +kernel), List.mem_of_getElem? (i := 799) (by decide +kernel), List.mem_of_getElem? (i := 800) (by decide +kernel)⟩
theorem lw_p23 : lw_okq (⟨"FrameSheets", "takesPlace", "(IIII)Z"⟩, 13) := ⟨⟨by decide +kernel, by decide +kernel⟩, List.mem_of_getElem? (i := 20) (by decide +kernel), List.mem_of_getElem? (i := 812) (by decide +kernel), List.mem_of_getElem? (i := 813) (by decide +kernel)⟩
theorem lw_p24 : lw_okq (⟨"FrameSheets", "pointSeen", "(III)I"⟩, 13) := ⟨⟨by decide +kernel, by decide +kernel⟩, List.mem_of_getElem? (i := 20) (by decide +kernel), List.mem_of_getElem? (i := 821) (by decide +kernel), List.mem_of_getElem? (i := 822) (by decide +kernel)⟩
theorem lw_p25 : lw_okq (⟨"FrameSheets", "shortcoming", "(LFrameSheets$Layout;)I"⟩, 13) := ⟨⟨by decide +kernel, by decide +kernel⟩, List.mem_of_getElem? (i := 20) (by decide +kernel), List.mem_of_getElem? (i := 862) (by decide +kernel), List.mem_of_getElem? (i := 863) (by decide +kernel)⟩
theorem lw_p26 : lw_okq (⟨"FrameSheets", "doLot", "(I)V"⟩, 13) := ⟨⟨by decide +kernel, by decide +kernel⟩, List.mem_of_getElem? (i := 20) (by decide +kernel), List.mem_of_getElem? (i := 877) (by decide +kernel), List.mem_of_getElem? (i := 878) (by decide +kernel)⟩
theorem lw_p27 : lw_okq (⟨"FrameSheets", "placesTakenOnAllPages", "()I"⟩, 13) := ⟨⟨by decide +kernel, by decide +kernel⟩, List.mem_of_getElem? (i := 20) (by decide +kernel), List.mem_of_getElem? (i := 889) (by decide +kernel), List.mem_of_getElem? (i := 890) (by decide +kernel)⟩
theorem lw_p28 : lw_okq (⟨"FrameSheets", "freeOnAllPages", "()I"⟩, 13) := ⟨⟨by decide +kernel, by decide +kernel⟩, List.mem_of_getElem? (i := 20) (by decide +kernel), List.mem_of_getElem? (i := 893) (by decide +kernel), List.mem_of_getElem? (i := 894) (by decide +kernel)⟩
theorem lw_p29 : lw_okq (⟨"FrameSheets", "rowsThere", "()I"⟩, 13) := ⟨⟨by decide +kernel, by decide +kernel⟩, List.mem_of_getElem? (i := 20) (by decide +kernel), List.mem_of_getElem? (i := 901) (by decide +kernel), List.mem_of_getElem? (i := 902) (by decide +kernel)⟩
theorem lw_p30 : lw_okq (⟨"FrameSheets", "textsThere", "()I"⟩, 13) := ⟨⟨by decide +kernel, by decide +kernel⟩, List.mem_of_getElem? (i := 20) (by decide +kernel), List.mem_of_getElem? (i := 905) (by decide +kernel), List.mem_of_getElem? (i := 906) (by decide +kernel)⟩
theorem lw_p31 : lw_okq (⟨"FrameSheets", "sheetsKept", "()I"⟩, 13) := ⟨⟨by decide +kernel, by decide +kernel⟩, List.mem_of_getElem? (i := 20) (by decide +kernel), List.mem_of_getElem? (i := 909) (by decide +kernel), List.mem_of_getElem? (i := 910) (by decide +kernel)⟩
def lw_privs_2 : List (MethodName × Nat) := [(⟨"FrameSheets$Scribe", "writeFrame", "(LFrameSheets$Frame;)V"⟩, 2), (⟨"FrameSheets$Room", "cover", "(LFrameSheets$Frame;LFrameSheets$Layout;I)V"⟩, 5), (⟨"FrameSheets$Room", "findFree", "()V"⟩, 5), (⟨"FrameSheets$Room", "addRuns", "(IIIII)V"⟩, 5), (⟨"FrameSheets$Room", "insert", "(I)V"⟩, 5), (⟨"FrameSheets$Packer", "fillQueue", "(LFrameSheets$Sheet;I)V"⟩, 2), (⟨"FrameSheets", "isPage", "(I)Z"⟩, 13), (⟨"FrameSheets", "takesPlace", "(IIII)Z"⟩, 13), (⟨"FrameSheets", "pointSeen", "(III)I"⟩, 13), (⟨"FrameSheets", "shortcoming", "(LFrameSheets$Layout;)I"⟩, 13), (⟨"FrameSheets", "doLot", "(I)V"⟩, 13), (⟨"FrameSheets", "placesTakenOnAllPages", "()I"⟩, 13), (⟨"FrameSheets", "freeOnAllPages", "()I"⟩, 13), (⟨"FrameSheets", "rowsThere", "()I"⟩, 13), (⟨"FrameSheets", "textsThere", "()I"⟩, 13), (⟨"FrameSheets", "sheetsKept", "()I"⟩, 13)]
theorem lw_r2 : ∀ q ∈ lw_privs_2, lw_okq q := List.forall_mem_cons.mpr ⟨lw_p16, List.forall_mem_cons.mpr ⟨lw_p17, List.forall_mem_cons.mpr ⟨lw_p18, List.forall_mem_cons.mpr ⟨lw_p19, List.forall_mem_cons.mpr ⟨lw_p20, List.forall_mem_cons.mpr ⟨lw_p21, List.forall_mem_cons.mpr ⟨lw_p22, List.forall_mem_cons.mpr ⟨lw_p23, List.forall_mem_cons.mpr ⟨lw_p24, List.forall_mem_cons.mpr ⟨lw_p25, List.forall_mem_cons.mpr ⟨lw_p26, List.forall_mem_cons.mpr ⟨lw_p27, List.forall_mem_cons.mpr ⟨lw_p28, List.forall_mem_cons.mpr ⟨lw_p29, List.forall_mem_cons.mpr ⟨lw_p30, List.forall_mem_cons.mpr ⟨lw_p31, fun _ h => absurd h List.not_mem_nil⟩⟩⟩⟩⟩⟩⟩⟩⟩⟩⟩⟩⟩⟩⟩⟩
theorem lw_p32 : lw_okq (⟨"FrameSheets", "withFrame", "(JI)J"⟩, 13) := ⟨⟨by decide +kernel, by decide +kernel⟩, List.mem_of_getElem? (i := 20) (by decide +kernel), List.mem_of_getElem? (i := 928) (by decide +kernel), List.mem_of_getElem? (i := 929) (by decide +kernel)⟩
theorem lw_p33 : lw_okq (⟨"FrameSheetsModel", "found", "(I)I"⟩, 45) := ⟨⟨by decide +kernel, by decide +kernel⟩, List.mem_of_getElem? (i := 932) (by decide +kernel), List.mem_of_getElem? (i := 1096) (by decide +kernel), List.mem_of_getElem? (i := 1097) (by decide +kernel)⟩
theorem lw_p34 : lw_okq (⟨"FrameSheetsModel", "rowAt", "(II)I"⟩, 45) := ⟨⟨by decide +kernel, by decide +kernel⟩, List.mem_of_getElem? (i := 932) (by decide +kernel), List.mem_of_getElem? (i := 1104) (by decide +kernel), List.mem_of_getElem? (i := 1105) (by decide +kernel)⟩
theorem lw_p35 : lw_okq (⟨"FrameSheetsModel", "tells", "(II)I"⟩, 45) := ⟨⟨by decide +kernel, by decide +kernel⟩, List.mem_of_getElem? (i := 932) (by decide +kernel), List.mem_of_getElem? (i := 1108) (by decide +kernel), List.mem_of_getElem? (i := 1109) (by decide +kernel)⟩
theorem lw_p36 : lw_okq (⟨"FrameSheetsModel", "faultOf", "(I)I"⟩, 45) := ⟨⟨by decide +kernel, by decide +kernel⟩, List.mem_of_getElem? (i := 932) (by decide +kernel), List.mem_of_getElem? (i := 1143) (by decide +kernel), List.mem_of_getElem? (i := 1144) (by decide +kernel)⟩
theorem lw_p37 : lw_okq (⟨"FrameSheetsModel", "blanks", "(I)V"⟩, 45) := ⟨⟨by decide +kernel, by decide +kernel⟩, List.mem_of_getElem? (i := 932) (by decide +kernel), List.mem_of_getElem? (i := 1147) (by decide +kernel), List.mem_of_getElem? (i := 1148) (by decide +kernel)⟩
theorem lw_p38 : lw_okq (⟨"FrameSheetsModel", "byteAt", "(II)I"⟩, 45) := ⟨⟨by decide +kernel, by decide +kernel⟩, List.mem_of_getElem? (i := 932) (by decide +kernel), List.mem_of_getElem? (i := 1151) (by decide +kernel), List.mem_of_getElem? (i := 1152) (by decide +kernel)⟩
theorem lw_p39 : lw_okq (⟨"FrameSheetsModel", "readsOne", "(I)Z"⟩, 45) := ⟨⟨by decide +kernel, by decide +kernel⟩, List.mem_of_getElem? (i := 932) (by decide +kernel), List.mem_of_getElem? (i := 1155) (by decide +kernel), List.mem_of_getElem? (i := 1156) (by decide +kernel)⟩
theorem lw_p40 : lw_okq (⟨"FrameSheetsModel", "next", "(I)V"⟩, 45) := ⟨⟨by decide +kernel, by decide +kernel⟩, List.mem_of_getElem? (i := 932) (by decide +kernel), List.mem_of_getElem? (i := 1159) (by decide +kernel), List.mem_of_getElem? (i := 1160) (by decide +kernel)⟩
theorem lw_p41 : lw_okq (⟨"FrameSheetsModel", "isLetter", "(I)Z"⟩, 45) := ⟨⟨by decide +kernel, by decide +kernel⟩, List.mem_of_getElem? (i := 932) (by decide +kernel), List.mem_of_getElem? (i := 1163) (by decide +kernel), List.mem_of_getElem? (i := 1164) (by decide +kernel)⟩
theorem lw_p42 : lw_okq (⟨"FrameSheetsModel", "isFigure", "(I)Z"⟩, 45) := ⟨⟨by decide +kernel, by decide +kernel⟩, List.mem_of_getElem? (i := 932) (by decide +kernel), List.mem_of_getElem? (i := 1167) (by decide +kernel), List.mem_of_getElem? (i := 1168) (by decide +kernel)⟩
theorem lw_p43 : lw_okq (⟨"FrameSheetsModel", "word", "(I)I"⟩, 45) := ⟨⟨by decide +kernel, by decide +kernel⟩, List.mem_of_getElem? (i := 932) (by decide +kernel), List.mem_of_getElem? (i := 1171) (by decide +kernel), List.mem_of_getElem? (i := 1172) (by decide +kernel)⟩
theorem lw_p44 : lw_okq (⟨"FrameSheetsModel", "fails", "()Z"⟩, 45) := ⟨⟨by decide +kernel, by decide +kernel⟩, List.mem_of_getElem? (i := 932) (by decide +kernel), List.mem_of_getElem? (i := 1176) (by decide +kernel), List.mem_of_getElem? (i := 1177) (by decide +kernel)⟩
theorem lw_p45 : lw_okq (⟨"FrameSheetsModel", "readsPage", "(I)Z"⟩, 45) := ⟨⟨by decide +kernel, by decide +kernel⟩, List.mem_of_getElem? (i := 932) (by decide +kernel), List.mem_of_getElem? (i := 1180) (by decide +kernel), List.mem_of_getElem? (i := 1181) (by decide +kernel)⟩
theorem lw_p46 : lw_okq (⟨"FrameSheetsModel", "number", "(III)Z"⟩, 45) := ⟨⟨by decide +kernel, by decide +kernel⟩, List.mem_of_getElem? (i := 932) (by decide +kernel), List.mem_of_getElem? (i := 1184) (by decide +kernel), List.mem_of_getElem? (i := 1185) (by decide +kernel)⟩
theorem lw_p47 : lw_okq (⟨"FrameSheetsModel", "ends", "(I)Z"⟩, 45) := ⟨⟨by decide +kernel, by decide +kernel⟩, List.mem_of_getElem? (i := 932) (by decide +kernel), List.mem_of_getElem? (i := 1188) (by decide +kernel), List.mem_of_getElem? (i := 1189) (by decide +kernel)⟩
def lw_privs_3 : List (MethodName × Nat) := [(⟨"FrameSheets", "withFrame", "(JI)J"⟩, 13), (⟨"FrameSheetsModel", "found", "(I)I"⟩, 45), (⟨"FrameSheetsModel", "rowAt", "(II)I"⟩, 45), (⟨"FrameSheetsModel", "tells", "(II)I"⟩, 45), (⟨"FrameSheetsModel", "faultOf", "(I)I"⟩, 45), (⟨"FrameSheetsModel", "blanks", "(I)V"⟩, 45), (⟨"FrameSheetsModel", "byteAt", "(II)I"⟩, 45), (⟨"FrameSheetsModel", "readsOne", "(I)Z"⟩, 45), (⟨"FrameSheetsModel", "next", "(I)V"⟩, 45), (⟨"FrameSheetsModel", "isLetter", "(I)Z"⟩, 45), (⟨"FrameSheetsModel", "isFigure", "(I)Z"⟩, 45), (⟨"FrameSheetsModel", "word", "(I)I"⟩, 45), (⟨"FrameSheetsModel", "fails", "()Z"⟩, 45), (⟨"FrameSheetsModel", "readsPage", "(I)Z"⟩, 45), (⟨"FrameSheetsModel", "number", "(III)Z"⟩, 45), (⟨"FrameSheetsModel", "ends", "(I)Z"⟩, 45)]
theorem lw_r3 : ∀ q ∈ lw_privs_3, lw_okq q := List.forall_mem_cons.mpr ⟨lw_p32, List.forall_mem_cons.mpr ⟨lw_p33, List.forall_mem_cons.mpr ⟨lw_p34, List.forall_mem_cons.mpr ⟨lw_p35, List.forall_mem_cons.mpr ⟨lw_p36, List.forall_mem_cons.mpr ⟨lw_p37, List.forall_mem_cons.mpr ⟨lw_p38, List.forall_mem_cons.mpr ⟨lw_p39, List.forall_mem_cons.mpr ⟨lw_p40, List.forall_mem_cons.mpr ⟨lw_p41, List.forall_mem_cons.mpr ⟨lw_p42, List.forall_mem_cons.mpr ⟨lw_p43, List.forall_mem_cons.mpr ⟨lw_p44, List.forall_mem_cons.mpr ⟨lw_p45, List.forall_mem_cons.mpr ⟨lw_p46, List.forall_mem_cons.mpr ⟨lw_p47, fun _ h => absurd h List.not_mem_nil⟩⟩⟩⟩⟩⟩⟩⟩⟩⟩⟩⟩⟩⟩⟩⟩
theorem lw_p48 : lw_okq (⟨"FrameSheetsModel", "readsBleed", "(I)Z"⟩, 45) := ⟨⟨by decide +kernel, by decide +kernel⟩, List.mem_of_getElem? (i := 932) (by decide +kernel), List.mem_of_getElem? (i := 1192) (by decide +kernel), List.mem_of_getElem? (i := 1193) (by decide +kernel)⟩
theorem lw_p49 : lw_okq (⟨"FrameSheetsModel", "readsFrame", "(II)Z"⟩, 45) := ⟨⟨by decide +kernel, by decide +kernel⟩, List.mem_of_getElem? (i := 932) (by decide +kernel), List.mem_of_getElem? (i := 1196) (by decide +kernel), List.mem_of_getElem? (i := 1197) (by decide +kernel)⟩
theorem lw_p50 : lw_okq (⟨"FrameSheetsModel", "liftsAll", "()V"⟩, 45) := ⟨⟨by decide +kernel, by decide +kernel⟩, List.mem_of_getElem? (i := 932) (by decide +kernel), List.mem_of_getElem? (i := 1204) (by decide +kernel), List.mem_of_getElem? (i := 1205) (by decide +kernel)⟩
theorem lw_p51 : lw_okq (⟨"FrameSheetsModel", "writesWord", "(I)V"⟩, 45) := ⟨⟨by decide +kernel, by decide +kernel⟩, List.mem_of_getElem? (i := 932) (by decide +kernel), List.mem_of_getElem? (i := 1212) (by decide +kernel), List.mem_of_getElem? (i := 1213) (by decide +kernel)⟩
theorem lw_p52 : lw_okq (⟨"FrameSheetsModel", "writes", "(I)V"⟩, 45) := ⟨⟨by decide +kernel, by decide +kernel⟩, List.mem_of_getElem? (i := 932) (by decide +kernel), List.mem_of_getElem? (i := 1216) (by decide +kernel), List.mem_of_getElem? (i := 1217) (by decide +kernel)⟩
theorem lw_p53 : lw_okq (⟨"FrameSheetsModel", "writesNumber", "(I)V"⟩, 45) := ⟨⟨by decide +kernel, by decide +kernel⟩, List.mem_of_getElem? (i := 932) (by decide +kernel), List.mem_of_getElem? (i := 1220) (by decide +kernel), List.mem_of_getElem? (i := 1221) (by decide +kernel)⟩
theorem lw_p54 : lw_okq (⟨"FrameSheetsModel", "kindOf", "(I)I"⟩, 45) := ⟨⟨by decide +kernel, by decide +kernel⟩, List.mem_of_getElem? (i := 932) (by decide +kernel), List.mem_of_getElem? (i := 1225) (by decide +kernel), List.mem_of_getElem? (i := 1226) (by decide +kernel)⟩
theorem lw_p55 : lw_okq (⟨"FrameSheetsModel", "isFrame", "(I)Z"⟩, 45) := ⟨⟨by decide +kernel, by decide +kernel⟩, List.mem_of_getElem? (i := 932) (by decide +kernel), List.mem_of_getElem? (i := 1237) (by decide +kernel), List.mem_of_getElem? (i := 1238) (by decide +kernel)⟩
theorem lw_p56 : lw_okq (⟨"FrameSheetsModel", "frameTells", "(II)I"⟩, 45) := ⟨⟨by decide +kernel, by decide +kernel⟩, List.mem_of_getElem? (i := 932) (by decide +kernel), List.mem_of_getElem? (i := 1241) (by decide +kernel), List.mem_of_getElem? (i := 1242) (by decide +kernel)⟩
theorem lw_p57 : lw_okq (⟨"FrameSheetsModel", "across", "(I)I"⟩, 45) := ⟨⟨by decide +kernel, by decide +kernel⟩, List.mem_of_getElem? (i := 932) (by decide +kernel), List.mem_of_getElem? (i := 1245) (by decide +kernel), List.mem_of_getElem? (i := 1246) (by decide +kernel)⟩
theorem lw_p58 : lw_okq (⟨"FrameSheetsModel", "of", "(II)I"⟩, 45) := ⟨⟨by decide +kernel, by decide +kernel⟩, List.mem_of_getElem? (i := 932) (by decide +kernel), List.mem_of_getElem? (i := 1249) (by decide +kernel), List.mem_of_getElem? (i := 1250) (by decide +kernel)⟩
theorem lw_p59 : lw_okq (⟨"FrameSheetsModel", "down", "(I)I"⟩, 45) := ⟨⟨by decide +kernel, by decide +kernel⟩, List.mem_of_getElem? (i := 932) (by decide +kernel), List.mem_of_getElem? (i := 1253) (by decide +kernel), List.mem_of_getElem? (i := 1254) (by decide +kernel)⟩
theorem lw_p60 : lw_okq (⟨"FrameSheetsModel", "needX", "(II)I"⟩, 45) := ⟨⟨by decide +kernel, by decide +kernel⟩, List.mem_of_getElem? (i := 932) (by decide +kernel), List.mem_of_getElem? (i := 1257) (by decide +kernel), List.mem_of_getElem? (i := 1258) (by decide +kernel)⟩
theorem lw_p61 : lw_okq (⟨"FrameSheetsModel", "edge", "(I)I"⟩, 45) := ⟨⟨by decide +kernel, by decide +kernel⟩, List.mem_of_getElem? (i := 932) (by decide +kernel), List.mem_of_getElem? (i := 1261) (by decide +kernel), List.mem_of_getElem? (i := 1262) (by decide +kernel)⟩
theorem lw_p62 : lw_okq (⟨"FrameSheetsModel", "needY", "(II)I"⟩, 45) := ⟨⟨by decide +kernel, by decide +kernel⟩, List.mem_of_getElem? (i := 932) (by decide +kernel), List.mem_of_getElem? (i := 1265) (by decide +kernel), List.mem_of_getElem? (i := 1266) (by decide +kernel)⟩
theorem lw_p63 : lw_okq (⟨"FrameSheetsModel", "isSet", "(I)Z"⟩, 45) := ⟨⟨by decide +kernel, by decide +kernel⟩, List.mem_of_getElem? (i := 932) (by decide +kernel), List.mem_of_getElem? (i := 1273) (by decide +kernel), List.mem_of_getElem? (i := 1274) (by decide +kernel)⟩
def lw_privs_4 : List (MethodName × Nat) := [(⟨"FrameSheetsModel", "readsBleed", "(I)Z"⟩, 45), (⟨"FrameSheetsModel", "readsFrame", "(II)Z"⟩, 45), (⟨"FrameSheetsModel", "liftsAll", "()V"⟩, 45), (⟨"FrameSheetsModel", "writesWord", "(I)V"⟩, 45), (⟨"FrameSheetsModel", "writes", "(I)V"⟩, 45), (⟨"FrameSheetsModel", "writesNumber", "(I)V"⟩, 45), (⟨"FrameSheetsModel", "kindOf", "(I)I"⟩, 45), (⟨"FrameSheetsModel", "isFrame", "(I)Z"⟩, 45), (⟨"FrameSheetsModel", "frameTells", "(II)I"⟩, 45), (⟨"FrameSheetsModel", "across", "(I)I"⟩, 45), (⟨"FrameSheetsModel", "of", "(II)I"⟩, 45), (⟨"FrameSheetsModel", "down", "(I)I"⟩, 45), (⟨"FrameSheetsModel", "needX", "(II)I"⟩, 45), (⟨"FrameSheetsModel", "edge", "(I)I"⟩, 45), (⟨"FrameSheetsModel", "needY", "(II)I"⟩, 45), (⟨"FrameSheetsModel", "isSet", "(I)Z"⟩, 45)]
theorem lw_r4 : ∀ q ∈ lw_privs_4, lw_okq q := List.forall_mem_cons.mpr ⟨lw_p48, List.forall_mem_cons.mpr ⟨lw_p49, List.forall_mem_cons.mpr ⟨lw_p50, List.forall_mem_cons.mpr ⟨lw_p51, List.forall_mem_cons.mpr ⟨lw_p52, List.forall_mem_cons.mpr ⟨lw_p53, List.forall_mem_cons.mpr ⟨lw_p54, List.forall_mem_cons.mpr ⟨lw_p55, List.forall_mem_cons.mpr ⟨lw_p56, List.forall_mem_cons.mpr ⟨lw_p57, List.forall_mem_cons.mpr ⟨lw_p58, List.forall_mem_cons.mpr ⟨lw_p59, List.forall_mem_cons.mpr ⟨lw_p60, List.forall_mem_cons.mpr ⟨lw_p61, List.forall_mem_cons.mpr ⟨lw_p62, List.forall_mem_cons.mpr ⟨lw_p63, fun _ h => absurd h List.not_mem_nil⟩⟩⟩⟩⟩⟩⟩⟩⟩⟩⟩⟩⟩⟩⟩⟩
theorem lw_p64 : lw_okq (⟨"FrameSheetsModel", "findsPage", "(I)I"⟩, 45) := ⟨⟨by decide +kernel, by decide +kernel⟩, List.mem_of_getElem? (i := 932) (by decide +kernel), List.mem_of_getElem? (i := 1297) (by decide +kernel), List.mem_of_getElem? (i := 1298) (by decide +kernel)⟩
theorem lw_p65 : lw_okq (⟨"FrameSheetsModel", "pageMany", "()I"⟩, 45) := ⟨⟨by decide +kernel, by decide +kernel⟩, List.mem_of_getElem? (i := 932) (by decide +kernel), List.mem_of_getElem? (i := 1301) (by decide +kernel), List.mem_of_getElem? (i := 1302) (by decide +kernel)⟩
theorem lw_p66 : lw_okq (⟨"FrameSheetsModel", "layFree", "(I)V"⟩, 45) := ⟨⟨by decide +kernel, by decide +kernel⟩, List.mem_of_getElem? (i := 932) (by decide +kernel), List.mem_of_getElem? (i := 1305) (by decide +kernel), List.mem_of_getElem? (i := 1306) (by decide +kernel)⟩
theorem lw_p67 : lw_okq (⟨"FrameSheetsModel", "layGrid", "(I)V"⟩, 45) := ⟨⟨by decide +kernel, by decide +kernel⟩, List.mem_of_getElem? (i := 932) (by decide +kernel), List.mem_of_getElem? (i := 1309) (by decide +kernel), List.mem_of_getElem? (i := 1310) (by decide +kernel)⟩
theorem lw_p68 : lw_okq (⟨"FrameSheetsModel", "isFree", "(IIII)Z"⟩, 45) := ⟨⟨by decide +kernel, by decide +kernel⟩, List.mem_of_getElem? (i := 932) (by decide +kernel), List.mem_of_getElem? (i := 1313) (by decide +kernel), List.mem_of_getElem? (i := 1314) (by decide +kernel)⟩
theorem lw_p69 : lw_okq (⟨"FrameSheetsModel", "isGreatest", "(IIII)Z"⟩, 45) := ⟨⟨by decide +kernel, by decide +kernel⟩, List.mem_of_getElem? (i := 932) (by decide +kernel), List.mem_of_getElem? (i := 1317) (by decide +kernel), List.mem_of_getElem? (i := 1318) (by decide +kernel)⟩
theorem lw_p70 : lw_okq (⟨"FrameSheetsModel", "findsRoom", "(II)Z"⟩, 45) := ⟨⟨by decide +kernel, by decide +kernel⟩, List.mem_of_getElem? (i := 932) (by decide +kernel), List.mem_of_getElem? (i := 1321) (by decide +kernel), List.mem_of_getElem? (i := 1322) (by decide +kernel)⟩
theorem lw_p71 : lw_okq (⟨"FrameSheetsModel", "turns", "(I)I"⟩, 45) := ⟨⟨by decide +kernel, by decide +kernel⟩, List.mem_of_getElem? (i := 932) (by decide +kernel), List.mem_of_getElem? (i := 1325) (by decide +kernel), List.mem_of_getElem? (i := 1326) (by decide +kernel)⟩
theorem lw_p72 : lw_okq (⟨"FrameSheetsModel", "first", "(IIII)I"⟩, 45) := ⟨⟨by decide +kernel, by decide +kernel⟩, List.mem_of_getElem? (i := 932) (by decide +kernel), List.mem_of_getElem? (i := 1329) (by decide +kernel), List.mem_of_getElem? (i := 1330) (by decide +kernel)⟩
theorem lw_p73 : lw_okq (⟨"FrameSheetsModel", "second", "(IIII)I"⟩, 45) := ⟨⟨by decide +kernel, by decide +kernel⟩, List.mem_of_getElem? (i := 932) (by decide +kernel), List.mem_of_getElem? (i := 1333) (by decide +kernel), List.mem_of_getElem? (i := 1334) (by decide +kernel)⟩
theorem lw_p74 : lw_okq (⟨"FrameSheetsModel", "remember", "()V"⟩, 45) := ⟨⟨by decide +kernel, by decide +kernel⟩, List.mem_of_getElem? (i := 932) (by decide +kernel), List.mem_of_getElem? (i := 1337) (by decide +kernel), List.mem_of_getElem? (i := 1338) (by decide +kernel)⟩
theorem lw_p75 : lw_okq (⟨"FrameSheetsModel", "sets", "(II)V"⟩, 45) := ⟨⟨by decide +kernel, by decide +kernel⟩, List.mem_of_getElem? (i := 932) (by decide +kernel), List.mem_of_getElem? (i := 1341) (by decide +kernel), List.mem_of_getElem? (i := 1342) (by decide +kernel)⟩
theorem lw_p76 : lw_okq (⟨"FrameSheetsModel", "lifts", "(I)V"⟩, 45) := ⟨⟨by decide +kernel, by decide +kernel⟩, List.mem_of_getElem? (i := 932) (by decide +kernel), List.mem_of_getElem? (i := 1349) (by decide +kernel), List.mem_of_getElem? (i := 1350) (by decide +kernel)⟩
theorem lw_p77 : lw_okq (⟨"FrameSheetsModel", "setsAll", "(I)V"⟩, 45) := ⟨⟨by decide +kernel, by decide +kernel⟩, List.mem_of_getElem? (i := 932) (by decide +kernel), List.mem_of_getElem? (i := 1357) (by decide +kernel), List.mem_of_getElem? (i := 1358) (by decide +kernel)⟩
theorem lw_p78 : lw_okq (⟨"FrameSheetsModel", "weight", "(II)I"⟩, 45) := ⟨⟨by decide +kernel, by decide +kernel⟩, List.mem_of_getElem? (i := 932) (by decide +kernel), List.mem_of_getElem? (i := 1364) (by decide +kernel), List.mem_of_getElem? (i := 1365) (by decide +kernel)⟩
theorem lw_p79 : lw_okq (⟨"FrameSheetsModel", "isPage", "(I)Z"⟩, 45) := ⟨⟨by decide +kernel, by decide +kernel⟩, List.mem_of_getElem? (i := 932) (by decide +kernel), List.mem_of_getElem? (i := 1376) (by decide +kernel), List.mem_of_getElem? (i := 1377) (by decide +kernel)⟩
def lw_privs_5 : List (MethodName × Nat) := [(⟨"FrameSheetsModel", "findsPage", "(I)I"⟩, 45), (⟨"FrameSheetsModel", "pageMany", "()I"⟩, 45), (⟨"FrameSheetsModel", "layFree", "(I)V"⟩, 45), (⟨"FrameSheetsModel", "layGrid", "(I)V"⟩, 45), (⟨"FrameSheetsModel", "isFree", "(IIII)Z"⟩, 45), (⟨"FrameSheetsModel", "isGreatest", "(IIII)Z"⟩, 45), (⟨"FrameSheetsModel", "findsRoom", "(II)Z"⟩, 45), (⟨"FrameSheetsModel", "turns", "(I)I"⟩, 45), (⟨"FrameSheetsModel", "first", "(IIII)I"⟩, 45), (⟨"FrameSheetsModel", "second", "(IIII)I"⟩, 45), (⟨"FrameSheetsModel", "remember", "()V"⟩, 45), (⟨"FrameSheetsModel", "sets", "(II)V"⟩, 45), (⟨"FrameSheetsModel", "lifts", "(I)V"⟩, 45), (⟨"FrameSheetsModel", "setsAll", "(I)V"⟩, 45), (⟨"FrameSheetsModel", "weight", "(II)I"⟩, 45), (⟨"FrameSheetsModel", "isPage", "(I)Z"⟩, 45)]
theorem lw_r5 : ∀ q ∈ lw_privs_5, lw_okq q := List.forall_mem_cons.mpr ⟨lw_p64, List.forall_mem_cons.mpr ⟨lw_p65, List.forall_mem_cons.mpr ⟨lw_p66, List.forall_mem_cons.mpr ⟨lw_p67, List.forall_mem_cons.mpr ⟨lw_p68, List.forall_mem_cons.mpr ⟨lw_p69, List.forall_mem_cons.mpr ⟨lw_p70, List.forall_mem_cons.mpr ⟨lw_p71, List.forall_mem_cons.mpr ⟨lw_p72, List.forall_mem_cons.mpr ⟨lw_p73, List.forall_mem_cons.mpr ⟨lw_p74, List.forall_mem_cons.mpr ⟨lw_p75, List.forall_mem_cons.mpr ⟨lw_p76, List.forall_mem_cons.mpr ⟨lw_p77, List.forall_mem_cons.mpr ⟨lw_p78, List.forall_mem_cons.mpr ⟨lw_p79, fun _ h => absurd h List.not_mem_nil⟩⟩⟩⟩⟩⟩⟩⟩⟩⟩⟩⟩⟩⟩⟩⟩
theorem lw_p80 : lw_okq (⟨"FrameSheetsModel", "leftOf", "(I)I"⟩, 45) := ⟨⟨by decide +kernel, by decide +kernel⟩, List.mem_of_getElem? (i := 932) (by decide +kernel), List.mem_of_getElem? (i := 1387) (by decide +kernel), List.mem_of_getElem? (i := 1388) (by decide +kernel)⟩
theorem lw_p81 : lw_okq (⟨"FrameSheetsModel", "aboveOf", "(I)I"⟩, 45) := ⟨⟨by decide +kernel, by decide +kernel⟩, List.mem_of_getElem? (i := 932) (by decide +kernel), List.mem_of_getElem? (i := 1391) (by decide +kernel), List.mem_of_getElem? (i := 1392) (by decide +kernel)⟩
theorem lw_p82 : lw_okq (⟨"FrameSheetsModel", "takenOf", "(I)I"⟩, 45) := ⟨⟨by decide +kernel, by decide +kernel⟩, List.mem_of_getElem? (i := 932) (by decide +kernel), List.mem_of_getElem? (i := 1403) (by decide +kernel), List.mem_of_getElem? (i := 1404) (by decide +kernel)⟩
theorem lw_p83 : lw_okq (⟨"FrameSheetsModel", "tries", "(II)V"⟩, 45) := ⟨⟨by decide +kernel, by decide +kernel⟩, List.mem_of_getElem? (i := 932) (by decide +kernel), List.mem_of_getElem? (i := 1415) (by decide +kernel), List.mem_of_getElem? (i := 1416) (by decide +kernel)⟩
theorem lw_p84 : lw_okq (⟨"FrameSheetsModel", "setMany", "()I"⟩, 45) := ⟨⟨by decide +kernel, by decide +kernel⟩, List.mem_of_getElem? (i := 932) (by decide +kernel), List.mem_of_getElem? (i := 1436) (by decide +kernel), List.mem_of_getElem? (i := 1437) (by decide +kernel)⟩
theorem lw_p85 : lw_okq (⟨"FrameSheetsModel", "counted", "(I)I"⟩, 45) := ⟨⟨by decide +kernel, by decide +kernel⟩, List.mem_of_getElem? (i := 932) (by decide +kernel), List.mem_of_getElem? (i := 1444) (by decide +kernel), List.mem_of_getElem? (i := 1445) (by decide +kernel)⟩
theorem lw_p86 : lw_okq (⟨"FrameSheetsModel", "allTaken", "()I"⟩, 45) := ⟨⟨by decide +kernel, by decide +kernel⟩, List.mem_of_getElem? (i := 932) (by decide +kernel), List.mem_of_getElem? (i := 1448) (by decide +kernel), List.mem_of_getElem? (i := 1449) (by decide +kernel)⟩
theorem lw_p87 : lw_okq (⟨"FrameSheetsModel", "allFree", "()I"⟩, 45) := ⟨⟨by decide +kernel, by decide +kernel⟩, List.mem_of_getElem? (i := 932) (by decide +kernel), List.mem_of_getElem? (i := 1452) (by decide +kernel), List.mem_of_getElem? (i := 1453) (by decide +kernel)⟩
theorem lw_p88 : lw_okq (⟨"FrameSheetsModel", "adds", "(J)V"⟩, 45) := ⟨⟨by decide +kernel, by decide +kernel⟩, List.mem_of_getElem? (i := 932) (by decide +kernel), List.mem_of_getElem? (i := 1461) (by decide +kernel), List.mem_of_getElem? (i := 1462) (by decide +kernel)⟩
def lw_privs_6 : List (MethodName × Nat) := [(⟨"FrameSheetsModel", "leftOf", "(I)I"⟩, 45), (⟨"FrameSheetsModel", "aboveOf", "(I)I"⟩, 45), (⟨"FrameSheetsModel", "takenOf", "(I)I"⟩, 45), (⟨"FrameSheetsModel", "tries", "(II)V"⟩, 45), (⟨"FrameSheetsModel", "setMany", "()I"⟩, 45), (⟨"FrameSheetsModel", "counted", "(I)I"⟩, 45), (⟨"FrameSheetsModel", "allTaken", "()I"⟩, 45), (⟨"FrameSheetsModel", "allFree", "()I"⟩, 45), (⟨"FrameSheetsModel", "adds", "(J)V"⟩, 45)]
theorem lw_r6 : ∀ q ∈ lw_privs_6, lw_okq q := List.forall_mem_cons.mpr ⟨lw_p80, List.forall_mem_cons.mpr ⟨lw_p81, List.forall_mem_cons.mpr ⟨lw_p82, List.forall_mem_cons.mpr ⟨lw_p83, List.forall_mem_cons.mpr ⟨lw_p84, List.forall_mem_cons.mpr ⟨lw_p85, List.forall_mem_cons.mpr ⟨lw_p86, List.forall_mem_cons.mpr ⟨lw_p87, List.forall_mem_cons.mpr ⟨lw_p88, fun _ h => absurd h List.not_mem_nil⟩⟩⟩⟩⟩⟩⟩⟩⟩
def lw_privs : List (MethodName × Nat) := lw_privs_1 ++ (lw_privs_2 ++ (lw_privs_3 ++ (lw_privs_4 ++ (lw_privs_5 ++ (lw_privs_6)))))
def lw_tbl : List Cond := k2_sels lw_privs ++ tables_1
theorem lw_privs_ok : ∀ q ∈ lw_privs, lw_okq q := by
  show ∀ q ∈ lw_privs_1 ++ (lw_privs_2 ++ (lw_privs_3 ++ (lw_privs_4 ++ (lw_privs_5 ++ (lw_privs_6))))), lw_okq q
  exact List.forall_mem_append.mpr ⟨lw_r1, List.forall_mem_append.mpr ⟨lw_r2, List.forall_mem_append.mpr ⟨lw_r3, List.forall_mem_append.mpr ⟨lw_r4, List.forall_mem_append.mpr ⟨lw_r5, lw_r6⟩⟩⟩⟩⟩
end
section
def RX0 : String := "FrameSheets$Frame"
def TX0 : u_T := fun k => match k with
  | 0 => ("FrameSheets$Frame", "kind", "I", false)
  | 1 => ("FrameSheets$Frame", "w", "I", false)
  | 2 => ("FrameSheets$Frame", "h", "I", false)
  | 3 => ("FrameSheets$Frame", "left", "I", false)
  | 4 => ("FrameSheets$Frame", "above", "I", false)
  | 5 => ("FrameSheets$Frame", "right", "I", false)
  | 6 => ("FrameSheets$Frame", "below", "I", false)
  | 7 => ("FrameSheets$Frame", "edge", "I", false)
  | 8 => ("FrameSheets$Frame", "across", "I", false)
  | 9 => ("FrameSheets$Frame", "down", "I", false)
  | 10 => ("FrameSheets$Frame", "firstColumn", "I", false)
  | _ => ("FrameSheets$Frame", "firstRow", "I", false)
def tyX0 : Nat → FieldType := fun k => match k with
  | 0 => .int
  | 1 => .int
  | 2 => .int
  | 3 => .int
  | 4 => .int
  | 5 => .int
  | 6 => .int
  | 7 => .int
  | 8 => .int
  | 9 => .int
  | 10 => .int
  | _ => .int
theorem nmX0 : ∀ a, a < 12 → ∀ b, b < 12 → a ≠ b → (TX0 a).2.1 ≠ (TX0 b).2.1 := by decide +kernel
theorem tyX0_ok : ∀ k, k < 12 → parseFieldDescriptor (TX0 k).2.2.1 = some (tyX0 k) := by decide +kernel
abbrev cX0_init : ByteArray := prog_2_method_1_code
def yX0_init : MethodName := ⟨RX0, "<init>", "()V"⟩
abbrev cX0_settle : ByteArray := prog_2_method_2_code
def yX0_settle : MethodName := ⟨RX0, "settle", "(I)V"⟩
abbrev cX0_isOf : ByteArray := prog_2_method_3_code
def yX0_isOf : MethodName := ⟨RX0, "isOf", "(I)Z"⟩
abbrev cX0_mayTurn : ByteArray := prog_2_method_4_code
def yX0_mayTurn : MethodName := ⟨RX0, "mayTurn", "()Z"⟩
abbrev cX0_needsAcross : ByteArray := prog_2_method_5_code
def yX0_needsAcross : MethodName := ⟨RX0, "needsAcross", "(Z)I"⟩
abbrev cX0_needsDown : ByteArray := prog_2_method_6_code
def yX0_needsDown : MethodName := ⟨RX0, "needsDown", "(Z)I"⟩
abbrev cX0_needsPlaces : ByteArray := prog_2_method_7_code
def yX0_needsPlaces : MethodName := ⟨RX0, "needsPlaces", "()I"⟩
abbrev cX0_edgePlaces : ByteArray := prog_2_method_8_code
def yX0_edgePlaces : MethodName := ⟨RX0, "edgePlaces", "()I"⟩
abbrev cX0_emptyPoints : ByteArray := prog_2_method_9_code
def yX0_emptyPoints : MethodName := ⟨RX0, "emptyPoints", "()I"⟩
abbrev cX0_part : ByteArray := prog_2_method_10_code
def yX0_part : MethodName := ⟨RX0, "part", "(I)I"⟩
def RX1 : String := "FrameSheets$Layout"
def TX1 : u_T := fun k => match k with
  | 0 => ("FrameSheets$Layout", "spots", "[I", true)
  | _ => ("FrameSheets$Layout", "rule", "I", false)
def tyX1 : Nat → FieldType := fun k => match k with
  | 0 => .array .int
  | _ => .int
theorem nmX1 : ∀ a, a < 2 → ∀ b, b < 2 → a ≠ b → (TX1 a).2.1 ≠ (TX1 b).2.1 := by decide +kernel
theorem tyX1_ok : ∀ k, k < 2 → parseFieldDescriptor (TX1 k).2.2.1 = some (tyX1 k) := by decide +kernel
abbrev cX1_init : ByteArray := prog_3_method_1_code
def yX1_init : MethodName := ⟨RX1, "<init>", "()V"⟩
abbrev cX1_spotAt : ByteArray := prog_3_method_2_code
def yX1_spotAt : MethodName := ⟨RX1, "spotAt", "(IIZ)I"⟩
abbrev cX1_spotOnPage : ByteArray := prog_3_method_3_code
def yX1_spotOnPage : MethodName := ⟨RX1, "spotOnPage", "(II)I"⟩
abbrev cX1_liftAll : ByteArray := prog_3_method_4_code
def yX1_liftAll : MethodName := ⟨RX1, "liftAll", "()V"⟩
abbrev cX1_isSet : ByteArray := prog_3_method_5_code
def yX1_isSet : MethodName := ⟨RX1, "isSet", "(I)Z"⟩
abbrev cX1_pageOf : ByteArray := prog_3_method_6_code
def yX1_pageOf : MethodName := ⟨RX1, "pageOf", "(I)I"⟩
abbrev cX1_xOf : ByteArray := prog_3_method_7_code
def yX1_xOf : MethodName := ⟨RX1, "xOf", "(I)I"⟩
abbrev cX1_yOf : ByteArray := prog_3_method_8_code
def yX1_yOf : MethodName := ⟨RX1, "yOf", "(I)I"⟩
abbrev cX1_isTurned : ByteArray := prog_3_method_9_code
def yX1_isTurned : MethodName := ⟨RX1, "isTurned", "(I)Z"⟩
abbrev cX1_part : ByteArray := prog_3_method_10_code
def yX1_part : MethodName := ⟨RX1, "part", "(II)I"⟩
abbrev cX1_pages : ByteArray := prog_3_method_11_code
def yX1_pages : MethodName := ⟨RX1, "pages", "()I"⟩
abbrev cX1_framesSet : ByteArray := prog_3_method_12_code
def yX1_framesSet : MethodName := ⟨RX1, "framesSet", "()I"⟩
abbrev cX1_framesTurned : ByteArray := prog_3_method_13_code
def yX1_framesTurned : MethodName := ⟨RX1, "framesTurned", "()I"⟩
def RX2 : String := "FrameSheets$Packer"
def TX2 : u_T := fun k => match k with
  | 0 => ("FrameSheets$Packer", "room", "LFrameSheets$Room;", true)
  | _ => ("FrameSheets$Packer", "queue", "[I", true)
def tyX2 : Nat → FieldType := fun k => match k with
  | 0 => .object "FrameSheets$Room"
  | _ => .array .int
theorem nmX2 : ∀ a, a < 2 → ∀ b, b < 2 → a ≠ b → (TX2 a).2.1 ≠ (TX2 b).2.1 := by decide +kernel
theorem tyX2_ok : ∀ k, k < 2 → parseFieldDescriptor (TX2 k).2.2.1 = some (tyX2 k) := by decide +kernel
abbrev cX2_init : ByteArray := prog_4_method_1_code
def yX2_init : MethodName := ⟨RX2, "<init>", "()V"⟩
abbrev cX2_spotFor : ByteArray := prog_4_method_2_code
def yX2_spotFor : MethodName := ⟨RX2, "spotFor", "(LFrameSheets$Sheet;LFrameSheets$Layout;I)I"⟩
abbrev cX2_setAllAnew : ByteArray := prog_4_method_3_code
def yX2_setAllAnew : MethodName := ⟨RX2, "setAllAnew", "(LFrameSheets$Sheet;LFrameSheets$Layout;I)V"⟩
abbrev cX2_fillQueue : ByteArray := prog_4_method_4_code
def yX2_fillQueue : MethodName := ⟨RX2, "fillQueue", "(LFrameSheets$Sheet;I)V"⟩
abbrev cX2_weightOf : ByteArray := prog_4_method_5_code
def yX2_weightOf : MethodName := ⟨RX2, "weightOf", "(LFrameSheets$Frame;I)I"⟩
def RX3 : String := "FrameSheets$Reader"
def TX3 : u_T := fun k => match k with
  | 0 => ("FrameSheets$Reader", "draft", "LFrameSheets$Sheet;", false)
  | 1 => ("FrameSheets$Reader", "bytes", "[B", false)
  | 2 => ("FrameSheets$Reader", "size", "I", false)
  | 3 => ("FrameSheets$Reader", "token", "I", false)
  | 4 => ("FrameSheets$Reader", "from", "I", false)
  | 5 => ("FrameSheets$Reader", "to", "I", false)
  | 6 => ("FrameSheets$Reader", "value", "I", false)
  | _ => ("FrameSheets$Reader", "bleedIsTold", "Z", false)
def tyX3 : Nat → FieldType := fun k => match k with
  | 0 => .object "FrameSheets$Sheet"
  | 1 => .array .byte
  | 2 => .int
  | 3 => .int
  | 4 => .int
  | 5 => .int
  | 6 => .int
  | _ => .boolean
theorem nmX3 : ∀ a, a < 8 → ∀ b, b < 8 → a ≠ b → (TX3 a).2.1 ≠ (TX3 b).2.1 := by decide +kernel
theorem tyX3_ok : ∀ k, k < 8 → parseFieldDescriptor (TX3 k).2.2.1 = some (tyX3 k) := by decide +kernel
abbrev cX3_init : ByteArray := prog_5_method_1_code
def yX3_init : MethodName := ⟨RX3, "<init>", "()V"⟩
abbrev cX3_exchangeDraft : ByteArray := prog_5_method_2_code
def yX3_exchangeDraft : MethodName := ⟨RX3, "exchangeDraft", "(LFrameSheets$Sheet;)LFrameSheets$Sheet;"⟩
abbrev cX3_faultOf : ByteArray := prog_5_method_3_code
def yX3_faultOf : MethodName := ⟨RX3, "faultOf", "(LFrameSheets$Text;)I"⟩
abbrev cX3_readPage : ByteArray := prog_5_method_4_code
def yX3_readPage : MethodName := ⟨RX3, "readPage", "()Z"⟩
abbrev cX3_readStatement : ByteArray := prog_5_method_5_code
def yX3_readStatement : MethodName := ⟨RX3, "readStatement", "()Z"⟩
abbrev cX3_readBleed : ByteArray := prog_5_method_6_code
def yX3_readBleed : MethodName := ⟨RX3, "readBleed", "()Z"⟩
abbrev cX3_readSides : ByteArray := prog_5_method_7_code
def yX3_readSides : MethodName := ⟨RX3, "readSides", "(LFrameSheets$Frame;)Z"⟩
abbrev cX3_readEmpty : ByteArray := prog_5_method_8_code
def yX3_readEmpty : MethodName := ⟨RX3, "readEmpty", "(LFrameSheets$Frame;)Z"⟩
abbrev cX3_takeNumber : ByteArray := prog_5_method_9_code
def yX3_takeNumber : MethodName := ⟨RX3, "takeNumber", "(II)I"⟩
abbrev cX3_takeStop : ByteArray := prog_5_method_10_code
def yX3_takeStop : MethodName := ⟨RX3, "takeStop", "()Z"⟩
abbrev cX3_kindAtHand : ByteArray := prog_5_method_11_code
def yX3_kindAtHand : MethodName := ⟨RX3, "kindAtHand", "()I"⟩
abbrev cX3_isAtWord : ByteArray := prog_5_method_12_code
def yX3_isAtWord : MethodName := ⟨RX3, "isAtWord", "(Ljava/lang/String;)Z"⟩
abbrev cX3_advance : ByteArray := prog_5_method_13_code
def yX3_advance : MethodName := ⟨RX3, "advance", "()V"⟩
abbrev cX3_isLetter : ByteArray := prog_5_method_14_code
def yX3_isLetter : MethodName := ⟨RX3, "isLetter", "(B)Z"⟩
abbrev cX3_isFigure : ByteArray := prog_5_method_15_code
def yX3_isFigure : MethodName := ⟨RX3, "isFigure", "(B)Z"⟩
def RX4 : String := "FrameSheets$Room"
def TX4 : u_T := fun k => match k with
  | 0 => ("FrameSheets$Room", "taken", "[I", true)
  | 1 => ("FrameSheets$Room", "free", "[I", true)
  | 2 => ("FrameSheets$Room", "wide", "I", false)
  | 3 => ("FrameSheets$Room", "high", "I", false)
  | _ => ("FrameSheets$Room", "size", "I", false)
def tyX4 : Nat → FieldType := fun k => match k with
  | 0 => .array .int
  | 1 => .array .int
  | 2 => .int
  | 3 => .int
  | _ => .int
theorem nmX4 : ∀ a, a < 5 → ∀ b, b < 5 → a ≠ b → (TX4 a).2.1 ≠ (TX4 b).2.1 := by decide +kernel
theorem tyX4_ok : ∀ k, k < 5 → parseFieldDescriptor (TX4 k).2.2.1 = some (tyX4 k) := by decide +kernel
abbrev cX4_init : ByteArray := prog_6_method_1_code
def yX4_init : MethodName := ⟨RX4, "<init>", "()V"⟩
abbrev cX4_look : ByteArray := prog_6_method_2_code
def yX4_look : MethodName := ⟨RX4, "look", "(LFrameSheets$Sheet;LFrameSheets$Layout;I)V"⟩
abbrev cX4_cover : ByteArray := prog_6_method_3_code
def yX4_cover : MethodName := ⟨RX4, "cover", "(LFrameSheets$Frame;LFrameSheets$Layout;I)V"⟩
abbrev cX4_span : ByteArray := prog_6_method_4_code
def yX4_span : MethodName := ⟨RX4, "span", "(II)I"⟩
abbrev cX4_findFree : ByteArray := prog_6_method_5_code
def yX4_findFree : MethodName := ⟨RX4, "findFree", "()V"⟩
abbrev cX4_addRuns : ByteArray := prog_6_method_6_code
def yX4_addRuns : MethodName := ⟨RX4, "addRuns", "(IIIII)V"⟩
abbrev cX4_insert : ByteArray := prog_6_method_7_code
def yX4_insert : MethodName := ⟨RX4, "insert", "(I)V"⟩
abbrev cX4_part : ByteArray := prog_6_method_8_code
def yX4_part : MethodName := ⟨RX4, "part", "(II)I"⟩
abbrev cX4_yOf : ByteArray := prog_6_method_9_code
def yX4_yOf : MethodName := ⟨RX4, "yOf", "(I)I"⟩
abbrev cX4_xOf : ByteArray := prog_6_method_10_code
def yX4_xOf : MethodName := ⟨RX4, "xOf", "(I)I"⟩
abbrev cX4_acrossOf : ByteArray := prog_6_method_11_code
def yX4_acrossOf : MethodName := ⟨RX4, "acrossOf", "(I)I"⟩
abbrev cX4_downOf : ByteArray := prog_6_method_12_code
def yX4_downOf : MethodName := ⟨RX4, "downOf", "(I)I"⟩
abbrev cX4_greatest : ByteArray := prog_6_method_13_code
def yX4_greatest : MethodName := ⟨RX4, "greatest", "()I"⟩
abbrev cX4_bestSpot : ByteArray := prog_6_method_14_code
def yX4_bestSpot : MethodName := ⟨RX4, "bestSpot", "(LFrameSheets$Frame;I)I"⟩
abbrev cX4_numbersOf : ByteArray := prog_6_method_15_code
def yX4_numbersOf : MethodName := ⟨RX4, "numbersOf", "(IIII)I"⟩
def RX5 : String := "FrameSheets$Row"
def TX5 : u_T := fun k => match k with
  | 0 => ("FrameSheets$Row", "places", "[I", true)
  | _ => ("FrameSheets$Row", "size", "I", false)
def tyX5 : Nat → FieldType := fun k => match k with
  | 0 => .array .int
  | _ => .int
theorem nmX5 : ∀ a, a < 2 → ∀ b, b < 2 → a ≠ b → (TX5 a).2.1 ≠ (TX5 b).2.1 := by decide +kernel
theorem tyX5_ok : ∀ k, k < 2 → parseFieldDescriptor (TX5 k).2.2.1 = some (tyX5 k) := by decide +kernel
abbrev cX5_init : ByteArray := prog_7_method_1_code
def yX5_init : MethodName := ⟨RX5, "<init>", "()V"⟩
abbrev cX5_isMissing : ByteArray := prog_7_method_2_code
def yX5_isMissing : MethodName := ⟨RX5, "isMissing", "()Z"⟩
abbrev cX5_renew : ByteArray := prog_7_method_3_code
def yX5_renew : MethodName := ⟨RX5, "renew", "(I)V"⟩
abbrev cX5_holds : ByteArray := prog_7_method_4_code
def yX5_holds : MethodName := ⟨RX5, "holds", "(II)Z"⟩
abbrev cX5_sum : ByteArray := prog_7_method_5_code
def yX5_sum : MethodName := ⟨RX5, "sum", "()J"⟩
def RX6 : String := "FrameSheets$Scribe"
def TX6 : u_T := fun k => match k with
  | 0 => ("FrameSheets$Scribe", "bytes", "[B", true)
  | _ => ("FrameSheets$Scribe", "size", "I", false)
def tyX6 : Nat → FieldType := fun k => match k with
  | 0 => .array .byte
  | _ => .int
theorem nmX6 : ∀ a, a < 2 → ∀ b, b < 2 → a ≠ b → (TX6 a).2.1 ≠ (TX6 b).2.1 := by decide +kernel
theorem tyX6_ok : ∀ k, k < 2 → parseFieldDescriptor (TX6 k).2.2.1 = some (tyX6 k) := by decide +kernel
abbrev cX6_init : ByteArray := prog_8_method_1_code
def yX6_init : MethodName := ⟨RX6, "<init>", "()V"⟩
abbrev cX6_writeSheet : ByteArray := prog_8_method_2_code
def yX6_writeSheet : MethodName := ⟨RX6, "writeSheet", "(LFrameSheets$Sheet;)V"⟩
abbrev cX6_writeFrame : ByteArray := prog_8_method_3_code
def yX6_writeFrame : MethodName := ⟨RX6, "writeFrame", "(LFrameSheets$Frame;)V"⟩
abbrev cX6_addWord : ByteArray := prog_8_method_4_code
def yX6_addWord : MethodName := ⟨RX6, "addWord", "(Ljava/lang/String;)V"⟩
abbrev cX6_addNumber : ByteArray := prog_8_method_5_code
def yX6_addNumber : MethodName := ⟨RX6, "addNumber", "(I)V"⟩
abbrev cX6_addSign : ByteArray := prog_8_method_6_code
def yX6_addSign : MethodName := ⟨RX6, "addSign", "(I)V"⟩
def RX7 : String := "FrameSheets$Sheet"
def TX7 : u_T := fun k => match k with
  | 0 => ("FrameSheets$Sheet", "frames", "[LFrameSheets$Frame;", true)
  | 1 => ("FrameSheets$Sheet", "size", "I", false)
  | 2 => ("FrameSheets$Sheet", "wide", "I", false)
  | 3 => ("FrameSheets$Sheet", "high", "I", false)
  | _ => ("FrameSheets$Sheet", "bleed", "I", false)
def tyX7 : Nat → FieldType := fun k => match k with
  | 0 => .array (.object "FrameSheets$Frame")
  | 1 => .int
  | 2 => .int
  | 3 => .int
  | _ => .int
theorem nmX7 : ∀ a, a < 5 → ∀ b, b < 5 → a ≠ b → (TX7 a).2.1 ≠ (TX7 b).2.1 := by decide +kernel
theorem tyX7_ok : ∀ k, k < 5 → parseFieldDescriptor (TX7 k).2.2.1 = some (tyX7 k) := by decide +kernel
abbrev cX7_init : ByteArray := prog_9_method_1_code
def yX7_init : MethodName := ⟨RX7, "<init>", "()V"⟩
abbrev cX7_settle : ByteArray := prog_9_method_2_code
def yX7_settle : MethodName := ⟨RX7, "settle", "()V"⟩
abbrev cX7_placesTaken : ByteArray := prog_9_method_3_code
def yX7_placesTaken : MethodName := ⟨RX7, "placesTaken", "(LFrameSheets$Layout;I)I"⟩
def RX8 : String := "FrameSheets$Story"
def TX8 : u_T := fun k => match k with
  | 0 => ("FrameSheets$Story", "now", "LFrameSheets$Layout;", true)
  | 1 => ("FrameSheets$Story", "past", "[I", true)
  | _ => ("FrameSheets$Story", "deeds", "I", false)
def tyX8 : Nat → FieldType := fun k => match k with
  | 0 => .object "FrameSheets$Layout"
  | 1 => .array .int
  | _ => .int
theorem nmX8 : ∀ a, a < 3 → ∀ b, b < 3 → a ≠ b → (TX8 a).2.1 ≠ (TX8 b).2.1 := by decide +kernel
theorem tyX8_ok : ∀ k, k < 3 → parseFieldDescriptor (TX8 k).2.2.1 = some (tyX8 k) := by decide +kernel
abbrev cX8_init : ByteArray := prog_10_method_1_code
def yX8_init : MethodName := ⟨RX8, "<init>", "()V"⟩
abbrev cX8_isFull : ByteArray := prog_10_method_2_code
def yX8_isFull : MethodName := ⟨RX8, "isFull", "()Z"⟩
abbrev cX8_start : ByteArray := prog_10_method_3_code
def yX8_start : MethodName := ⟨RX8, "start", "()V"⟩
abbrev cX8_beginDeed : ByteArray := prog_10_method_4_code
def yX8_beginDeed : MethodName := ⟨RX8, "beginDeed", "()V"⟩
abbrev cX8_goBackTo : ByteArray := prog_10_method_5_code
def yX8_goBackTo : MethodName := ⟨RX8, "goBackTo", "(I)V"⟩
abbrev cX8_takeOver : ByteArray := prog_10_method_6_code
def yX8_takeOver : MethodName := ⟨RX8, "takeOver", "(LFrameSheets$Story;)V"⟩
def RX9 : String := "FrameSheets$Text"
def TX9 : u_T := fun k => match k with
  | 0 => ("FrameSheets$Text", "bytes", "[B", true)
  | _ => ("FrameSheets$Text", "size", "I", false)
def tyX9 : Nat → FieldType := fun k => match k with
  | 0 => .array .byte
  | _ => .int
theorem nmX9 : ∀ a, a < 2 → ∀ b, b < 2 → a ≠ b → (TX9 a).2.1 ≠ (TX9 b).2.1 := by decide +kernel
theorem tyX9_ok : ∀ k, k < 2 → parseFieldDescriptor (TX9 k).2.2.1 = some (tyX9 k) := by decide +kernel
abbrev cX9_init : ByteArray := prog_11_method_1_code
def yX9_init : MethodName := ⟨RX9, "<init>", "()V"⟩
abbrev cX9_isMissing : ByteArray := prog_11_method_2_code
def yX9_isMissing : MethodName := ⟨RX9, "isMissing", "()Z"⟩
abbrev cX9_renew : ByteArray := prog_11_method_3_code
def yX9_renew : MethodName := ⟨RX9, "renew", "(I)V"⟩
abbrev cX9_takeOver : ByteArray := prog_11_method_4_code
def yX9_takeOver : MethodName := ⟨RX9, "takeOver", "([BI)V"⟩
def RX10 : String := "FrameSheets"
def TX10 : u_T := fun k => match k with
  | 0 => ("FrameSheets", "rows", "[LFrameSheets$Row;", true)
  | 1 => ("FrameSheets", "texts", "[LFrameSheets$Text;", true)
  | 2 => ("FrameSheets", "kept", "[LFrameSheets$Story;", true)
  | 3 => ("FrameSheets", "isKept", "[Z", true)
  | 4 => ("FrameSheets", "story", "LFrameSheets$Story;", true)
  | 5 => ("FrameSheets", "reader", "LFrameSheets$Reader;", true)
  | 6 => ("FrameSheets", "scribe", "LFrameSheets$Scribe;", true)
  | 7 => ("FrameSheets", "packer", "LFrameSheets$Packer;", true)
  | 8 => ("FrameSheets", "aside", "LFrameSheets$Layout;", true)
  | 9 => ("FrameSheets", "findingCounts", "[I", true)
  | 10 => ("FrameSheets", "current", "LFrameSheets$Sheet;", false)
  | 11 => ("FrameSheets", "told", "I", false)
  | _ => ("FrameSheets", "latestFinding", "I", false)
def tyX10 : Nat → FieldType := fun k => match k with
  | 0 => .array (.object "FrameSheets$Row")
  | 1 => .array (.object "FrameSheets$Text")
  | 2 => .array (.object "FrameSheets$Story")
  | 3 => .array .boolean
  | 4 => .object "FrameSheets$Story"
  | 5 => .object "FrameSheets$Reader"
  | 6 => .object "FrameSheets$Scribe"
  | 7 => .object "FrameSheets$Packer"
  | 8 => .object "FrameSheets$Layout"
  | 9 => .array .int
  | 10 => .object "FrameSheets$Sheet"
  | 11 => .int
  | _ => .int
theorem nmX10 : ∀ a, a < 13 → ∀ b, b < 13 → a ≠ b → (TX10 a).2.1 ≠ (TX10 b).2.1 := by decide +kernel
theorem tyX10_ok : ∀ k, k < 13 → parseFieldDescriptor (TX10 k).2.2.1 = some (tyX10 k) := by decide +kernel
abbrev cX10_init : ByteArray := prog_1_method_1_code
def yX10_init : MethodName := ⟨RX10, "<init>", "()V"⟩
abbrev cX10_row : ByteArray := prog_1_method_2_code
def yX10_row : MethodName := ⟨RX10, "row", "(II)I"⟩
abbrev cX10_lay : ByteArray := prog_1_method_3_code
def yX10_lay : MethodName := ⟨RX10, "lay", "(III)I"⟩
abbrev cX10_at : ByteArray := prog_1_method_4_code
def yX10_at : MethodName := ⟨RX10, "at", "(II)I"⟩
abbrev cX10_tear : ByteArray := prog_1_method_5_code
def yX10_tear : MethodName := ⟨RX10, "tear", "(I)I"⟩
abbrev cX10_copy : ByteArray := prog_1_method_6_code
def yX10_copy : MethodName := ⟨RX10, "copy", "(IIIII)I"⟩
abbrev cX10_mean : ByteArray := prog_1_method_7_code
def yX10_mean : MethodName := ⟨RX10, "mean", "(I)I"⟩
abbrev cX10_text : ByteArray := prog_1_method_8_code
def yX10_text : MethodName := ⟨RX10, "text", "(II)I"⟩
abbrev cX10_put : ByteArray := prog_1_method_9_code
def yX10_put : MethodName := ⟨RX10, "put", "(III)I"⟩
abbrev cX10_fault : ByteArray := prog_1_method_10_code
def yX10_fault : MethodName := ⟨RX10, "fault", "(I)I"⟩
abbrev cX10_sheet : ByteArray := prog_1_method_11_code
def yX10_sheet : MethodName := ⟨RX10, "sheet", "(I)I"⟩
abbrev cX10_write : ByteArray := prog_1_method_12_code
def yX10_write : MethodName := ⟨RX10, "write", "(I)I"⟩
abbrev cX10_frame : ByteArray := prog_1_method_13_code
def yX10_frame : MethodName := ⟨RX10, "frame", "(II)I"⟩
abbrev cX10_place : ByteArray := prog_1_method_14_code
def yX10_place : MethodName := ⟨RX10, "place", "(II)I"⟩
abbrev cX10_mark : ByteArray := prog_1_method_15_code
def yX10_mark : MethodName := ⟨RX10, "mark", "(II)I"⟩
abbrev cX10_set : ByteArray := prog_1_method_16_code
def yX10_set : MethodName := ⟨RX10, "set", "(I)I"⟩
abbrev cX10_lift : ByteArray := prog_1_method_17_code
def yX10_lift : MethodName := ⟨RX10, "lift", "(I)I"⟩
abbrev cX10_all : ByteArray := prog_1_method_18_code
def yX10_all : MethodName := ⟨RX10, "all", "(I)I"⟩
abbrev cX10_rule : ByteArray := prog_1_method_19_code
def yX10_rule : MethodName := ⟨RX10, "rule", "(I)I"⟩
abbrev cX10_undo : ByteArray := prog_1_method_20_code
def yX10_undo : MethodName := ⟨RX10, "undo", "(I)I"⟩
abbrev cX10_keep : ByteArray := prog_1_method_21_code
def yX10_keep : MethodName := ⟨RX10, "keep", "(I)I"⟩
abbrev cX10_on : ByteArray := prog_1_method_22_code
def yX10_on : MethodName := ⟨RX10, "on", "(I)I"⟩
abbrev cX10_free : ByteArray := prog_1_method_23_code
def yX10_free : MethodName := ⟨RX10, "free", "(III)I"⟩
abbrev cX10_seen : ByteArray := prog_1_method_24_code
def yX10_seen : MethodName := ⟨RX10, "seen", "(III)I"⟩
abbrev cX10_point : ByteArray := prog_1_method_25_code
def yX10_point : MethodName := ⟨RX10, "point", "(III)I"⟩
abbrev cX10_used : ByteArray := prog_1_method_26_code
def yX10_used : MethodName := ⟨RX10, "used", "(I)I"⟩
abbrev cX10_takes : ByteArray := prog_1_method_27_code
def yX10_takes : MethodName := ⟨RX10, "takes", "(I)I"⟩
abbrev cX10_would : ByteArray := prog_1_method_28_code
def yX10_would : MethodName := ⟨RX10, "would", "(II)I"⟩
abbrev cX10_best : ByteArray := prog_1_method_29_code
def yX10_best : MethodName := ⟨RX10, "best", "()I"⟩
abbrev cX10_lots : ByteArray := prog_1_method_30_code
def yX10_lots : MethodName := ⟨RX10, "lots", "(II)I"⟩
abbrev cX10_asked : ByteArray := prog_1_method_31_code
def yX10_asked : MethodName := ⟨RX10, "asked", "()I"⟩
abbrev cX10_count : ByteArray := prog_1_method_32_code
def yX10_count : MethodName := ⟨RX10, "count", "(I)I"⟩
abbrev cX10_finding : ByteArray := prog_1_method_33_code
def yX10_finding : MethodName := ⟨RX10, "finding", "()I"⟩
abbrev cX10_findings : ByteArray := prog_1_method_34_code
def yX10_findings : MethodName := ⟨RX10, "findings", "(I)I"⟩
abbrev cX10_digest : ByteArray := prog_1_method_35_code
def yX10_digest : MethodName := ⟨RX10, "digest", "()J"⟩
abbrev cX10_isBelow : ByteArray := prog_1_method_36_code
def yX10_isBelow : MethodName := ⟨RX10, "isBelow", "(II)Z"⟩
abbrev cX10_hasNoSheet : ByteArray := prog_1_method_37_code
def yX10_hasNoSheet : MethodName := ⟨RX10, "hasNoSheet", "()Z"⟩
abbrev cX10_isPage : ByteArray := prog_1_method_38_code
def yX10_isPage : MethodName := ⟨RX10, "isPage", "(I)Z"⟩
abbrev cX10_refuse : ByteArray := prog_1_method_39_code
def yX10_refuse : MethodName := ⟨RX10, "refuse", "(I)I"⟩
abbrev cX10_tell : ByteArray := prog_1_method_40_code
def yX10_tell : MethodName := ⟨RX10, "tell", "(I)I"⟩
abbrev cX10_takesPlace : ByteArray := prog_1_method_41_code
def yX10_takesPlace : MethodName := ⟨RX10, "takesPlace", "(IIII)Z"⟩
abbrev cX10_pointSeen : ByteArray := prog_1_method_42_code
def yX10_pointSeen : MethodName := ⟨RX10, "pointSeen", "(III)I"⟩
abbrev cX10_nearest : ByteArray := prog_1_method_43_code
def yX10_nearest : MethodName := ⟨RX10, "nearest", "(II)I"⟩
abbrev cX10_shortcoming : ByteArray := prog_1_method_44_code
def yX10_shortcoming : MethodName := ⟨RX10, "shortcoming", "(LFrameSheets$Layout;)I"⟩
abbrev cX10_doLot : ByteArray := prog_1_method_45_code
def yX10_doLot : MethodName := ⟨RX10, "doLot", "(I)V"⟩
abbrev cX10_placesTakenOnAllPages : ByteArray := prog_1_method_46_code
def yX10_placesTakenOnAllPages : MethodName := ⟨RX10, "placesTakenOnAllPages", "()I"⟩
abbrev cX10_freeOnAllPages : ByteArray := prog_1_method_47_code
def yX10_freeOnAllPages : MethodName := ⟨RX10, "freeOnAllPages", "()I"⟩
abbrev cX10_rowsThere : ByteArray := prog_1_method_48_code
def yX10_rowsThere : MethodName := ⟨RX10, "rowsThere", "()I"⟩
abbrev cX10_textsThere : ByteArray := prog_1_method_49_code
def yX10_textsThere : MethodName := ⟨RX10, "textsThere", "()I"⟩
abbrev cX10_sheetsKept : ByteArray := prog_1_method_50_code
def yX10_sheetsKept : MethodName := ⟨RX10, "sheetsKept", "()I"⟩
abbrev cX10_withFrame : ByteArray := prog_1_method_51_code
def yX10_withFrame : MethodName := ⟨RX10, "withFrame", "(JI)J"⟩
abbrev cX10_wordOf : ByteArray := prog_1_method_52_code
def yX10_wordOf : MethodName := ⟨RX10, "wordOf", "(I)Ljava/lang/String;"⟩
def RX11 : String := "FrameSheetsModel"
def TX11 : u_T := fun k => match k with
  | 0 => ("FrameSheetsModel", "told", "I", false)
  | 1 => ("FrameSheetsModel", "latest", "I", false)
  | 2 => ("FrameSheetsModel", "came", "[I", true)
  | 3 => ("FrameSheetsModel", "sizes", "[I", true)
  | 4 => ("FrameSheetsModel", "rows", "[I", true)
  | 5 => ("FrameSheetsModel", "copied", "[I", true)
  | 6 => ("FrameSheetsModel", "textSizes", "[I", true)
  | 7 => ("FrameSheetsModel", "bytes", "[B", true)
  | 8 => ("FrameSheetsModel", "wide", "I", false)
  | 9 => ("FrameSheetsModel", "high", "I", false)
  | 10 => ("FrameSheetsModel", "bleed", "I", false)
  | 11 => ("FrameSheetsModel", "frameMany", "I", false)
  | 12 => ("FrameSheetsModel", "given", "[I", true)
  | 13 => ("FrameSheetsModel", "readAt", "I", false)
  | 14 => ("FrameSheetsModel", "tokenAt", "I", false)
  | 15 => ("FrameSheetsModel", "token", "I", false)
  | 16 => ("FrameSheetsModel", "value", "I", false)
  | 17 => ("FrameSheetsModel", "faultAt", "I", false)
  | 18 => ("FrameSheetsModel", "readWide", "I", false)
  | 19 => ("FrameSheetsModel", "readHigh", "I", false)
  | 20 => ("FrameSheetsModel", "readBleed", "I", false)
  | 21 => ("FrameSheetsModel", "readMany", "I", false)
  | 22 => ("FrameSheetsModel", "read", "[I", true)
  | 23 => ("FrameSheetsModel", "now", "[I", true)
  | 24 => ("FrameSheetsModel", "outMany", "I", false)
  | 25 => ("FrameSheetsModel", "out", "[B", true)
  | 26 => ("FrameSheetsModel", "grid", "[I", true)
  | 27 => ("FrameSheetsModel", "freeMany", "I", false)
  | 28 => ("FrameSheetsModel", "freeX", "[I", true)
  | 29 => ("FrameSheetsModel", "freeY", "[I", true)
  | 30 => ("FrameSheetsModel", "freeW", "[I", true)
  | 31 => ("FrameSheetsModel", "freeH", "[I", true)
  | 32 => ("FrameSheetsModel", "bestAt", "I", false)
  | 33 => ("FrameSheetsModel", "bestTurned", "I", false)
  | 34 => ("FrameSheetsModel", "bestFirst", "I", false)
  | 35 => ("FrameSheetsModel", "bestSecond", "I", false)
  | 36 => ("FrameSheetsModel", "deedMany", "I", false)
  | 37 => ("FrameSheetsModel", "log", "[I", true)
  | 38 => ("FrameSheetsModel", "keptMany", "[I", true)
  | 39 => ("FrameSheetsModel", "kept", "[I", true)
  | 40 => ("FrameSheetsModel", "aside", "[I", true)
  | 41 => ("FrameSheetsModel", "wouldPages", "I", false)
  | 42 => ("FrameSheetsModel", "wouldMissing", "I", false)
  | 43 => ("FrameSheetsModel", "wouldLast", "I", false)
  | _ => ("FrameSheetsModel", "h", "J", false)
def tyX11 : Nat → FieldType := fun k => match k with
  | 0 => .int
  | 1 => .int
  | 2 => .array .int
  | 3 => .array .int
  | 4 => .array .int
  | 5 => .array .int
  | 6 => .array .int
  | 7 => .array .byte
  | 8 => .int
  | 9 => .int
  | 10 => .int
  | 11 => .int
  | 12 => .array .int
  | 13 => .int
  | 14 => .int
  | 15 => .int
  | 16 => .int
  | 17 => .int
  | 18 => .int
  | 19 => .int
  | 20 => .int
  | 21 => .int
  | 22 => .array .int
  | 23 => .array .int
  | 24 => .int
  | 25 => .array .byte
  | 26 => .array .int
  | 27 => .int
  | 28 => .array .int
  | 29 => .array .int
  | 30 => .array .int
  | 31 => .array .int
  | 32 => .int
  | 33 => .int
  | 34 => .int
  | 35 => .int
  | 36 => .int
  | 37 => .array .int
  | 38 => .array .int
  | 39 => .array .int
  | 40 => .array .int
  | 41 => .int
  | 42 => .int
  | 43 => .int
  | _ => .long
theorem nmX11 : ∀ a, a < 45 → ∀ b, b < 45 → a ≠ b → (TX11 a).2.1 ≠ (TX11 b).2.1 := by decide +kernel
theorem tyX11_ok : ∀ k, k < 45 → parseFieldDescriptor (TX11 k).2.2.1 = some (tyX11 k) := by decide +kernel
abbrev cX11_init : ByteArray := prog_13_method_1_code
def yX11_init : MethodName := ⟨RX11, "<init>", "()V"⟩
abbrev cX11_in : ByteArray := prog_13_method_2_code
def yX11_in : MethodName := ⟨RX11, "in", "(III)Z"⟩
abbrev cX11_has : ByteArray := prog_13_method_3_code
def yX11_has : MethodName := ⟨RX11, "has", "(II)Z"⟩
abbrev cX11_found : ByteArray := prog_13_method_4_code
def yX11_found : MethodName := ⟨RX11, "found", "(I)I"⟩
abbrev cX11_tells : ByteArray := prog_13_method_5_code
def yX11_tells : MethodName := ⟨RX11, "tells", "(II)I"⟩
abbrev cX11_asked : ByteArray := prog_13_method_6_code
def yX11_asked : MethodName := ⟨RX11, "asked", "()I"⟩
abbrev cX11_finding : ByteArray := prog_13_method_7_code
def yX11_finding : MethodName := ⟨RX11, "finding", "()I"⟩
abbrev cX11_findings : ByteArray := prog_13_method_8_code
def yX11_findings : MethodName := ⟨RX11, "findings", "(I)I"⟩
abbrev cX11_isRow : ByteArray := prog_13_method_9_code
def yX11_isRow : MethodName := ⟨RX11, "isRow", "(I)Z"⟩
abbrev cX11_rowAt : ByteArray := prog_13_method_10_code
def yX11_rowAt : MethodName := ⟨RX11, "rowAt", "(II)I"⟩
abbrev cX11_row : ByteArray := prog_13_method_11_code
def yX11_row : MethodName := ⟨RX11, "row", "(II)I"⟩
abbrev cX11_lay : ByteArray := prog_13_method_12_code
def yX11_lay : MethodName := ⟨RX11, "lay", "(III)I"⟩
abbrev cX11_at : ByteArray := prog_13_method_13_code
def yX11_at : MethodName := ⟨RX11, "at", "(II)I"⟩
abbrev cX11_tear : ByteArray := prog_13_method_14_code
def yX11_tear : MethodName := ⟨RX11, "tear", "(I)I"⟩
abbrev cX11_copy : ByteArray := prog_13_method_15_code
def yX11_copy : MethodName := ⟨RX11, "copy", "(IIIII)I"⟩
abbrev cX11_mean : ByteArray := prog_13_method_16_code
def yX11_mean : MethodName := ⟨RX11, "mean", "(I)I"⟩
abbrev cX11_isText : ByteArray := prog_13_method_17_code
def yX11_isText : MethodName := ⟨RX11, "isText", "(I)Z"⟩
abbrev cX11_text : ByteArray := prog_13_method_18_code
def yX11_text : MethodName := ⟨RX11, "text", "(II)I"⟩
abbrev cX11_put : ByteArray := prog_13_method_19_code
def yX11_put : MethodName := ⟨RX11, "put", "(III)I"⟩
abbrev cX11_byteAt : ByteArray := prog_13_method_20_code
def yX11_byteAt : MethodName := ⟨RX11, "byteAt", "(II)I"⟩
abbrev cX11_blanks : ByteArray := prog_13_method_21_code
def yX11_blanks : MethodName := ⟨RX11, "blanks", "(I)V"⟩
abbrev cX11_isLetter : ByteArray := prog_13_method_22_code
def yX11_isLetter : MethodName := ⟨RX11, "isLetter", "(I)Z"⟩
abbrev cX11_isFigure : ByteArray := prog_13_method_23_code
def yX11_isFigure : MethodName := ⟨RX11, "isFigure", "(I)Z"⟩
abbrev cX11_next : ByteArray := prog_13_method_24_code
def yX11_next : MethodName := ⟨RX11, "next", "(I)V"⟩
abbrev cX11_fails : ByteArray := prog_13_method_25_code
def yX11_fails : MethodName := ⟨RX11, "fails", "()Z"⟩
abbrev cX11_word : ByteArray := prog_13_method_26_code
def yX11_word : MethodName := ⟨RX11, "word", "(I)I"⟩
abbrev cX11_number : ByteArray := prog_13_method_27_code
def yX11_number : MethodName := ⟨RX11, "number", "(III)Z"⟩
abbrev cX11_ends : ByteArray := prog_13_method_28_code
def yX11_ends : MethodName := ⟨RX11, "ends", "(I)Z"⟩
abbrev cX11_readsPage : ByteArray := prog_13_method_29_code
def yX11_readsPage : MethodName := ⟨RX11, "readsPage", "(I)Z"⟩
abbrev cX11_readsBleed : ByteArray := prog_13_method_30_code
def yX11_readsBleed : MethodName := ⟨RX11, "readsBleed", "(I)Z"⟩
abbrev cX11_readsFrame : ByteArray := prog_13_method_31_code
def yX11_readsFrame : MethodName := ⟨RX11, "readsFrame", "(II)Z"⟩
abbrev cX11_readsOne : ByteArray := prog_13_method_32_code
def yX11_readsOne : MethodName := ⟨RX11, "readsOne", "(I)Z"⟩
abbrev cX11_faultOf : ByteArray := prog_13_method_33_code
def yX11_faultOf : MethodName := ⟨RX11, "faultOf", "(I)I"⟩
abbrev cX11_fault : ByteArray := prog_13_method_34_code
def yX11_fault : MethodName := ⟨RX11, "fault", "(I)I"⟩
abbrev cX11_sheet : ByteArray := prog_13_method_35_code
def yX11_sheet : MethodName := ⟨RX11, "sheet", "(I)I"⟩
abbrev cX11_writes : ByteArray := prog_13_method_36_code
def yX11_writes : MethodName := ⟨RX11, "writes", "(I)V"⟩
abbrev cX11_writesWord : ByteArray := prog_13_method_37_code
def yX11_writesWord : MethodName := ⟨RX11, "writesWord", "(I)V"⟩
abbrev cX11_writesNumber : ByteArray := prog_13_method_38_code
def yX11_writesNumber : MethodName := ⟨RX11, "writesNumber", "(I)V"⟩
abbrev cX11_write : ByteArray := prog_13_method_39_code
def yX11_write : MethodName := ⟨RX11, "write", "(I)I"⟩
abbrev cX11_isFrame : ByteArray := prog_13_method_40_code
def yX11_isFrame : MethodName := ⟨RX11, "isFrame", "(I)Z"⟩
abbrev cX11_kindOf : ByteArray := prog_13_method_41_code
def yX11_kindOf : MethodName := ⟨RX11, "kindOf", "(I)I"⟩
abbrev cX11_of : ByteArray := prog_13_method_42_code
def yX11_of : MethodName := ⟨RX11, "of", "(II)I"⟩
abbrev cX11_leftOf : ByteArray := prog_13_method_43_code
def yX11_leftOf : MethodName := ⟨RX11, "leftOf", "(I)I"⟩
abbrev cX11_aboveOf : ByteArray := prog_13_method_44_code
def yX11_aboveOf : MethodName := ⟨RX11, "aboveOf", "(I)I"⟩
abbrev cX11_across : ByteArray := prog_13_method_45_code
def yX11_across : MethodName := ⟨RX11, "across", "(I)I"⟩
abbrev cX11_down : ByteArray := prog_13_method_46_code
def yX11_down : MethodName := ⟨RX11, "down", "(I)I"⟩
abbrev cX11_edge : ByteArray := prog_13_method_47_code
def yX11_edge : MethodName := ⟨RX11, "edge", "(I)I"⟩
abbrev cX11_needX : ByteArray := prog_13_method_48_code
def yX11_needX : MethodName := ⟨RX11, "needX", "(II)I"⟩
abbrev cX11_needY : ByteArray := prog_13_method_49_code
def yX11_needY : MethodName := ⟨RX11, "needY", "(II)I"⟩
abbrev cX11_isSet : ByteArray := prog_13_method_50_code
def yX11_isSet : MethodName := ⟨RX11, "isSet", "(I)Z"⟩
abbrev cX11_liftsAll : ByteArray := prog_13_method_51_code
def yX11_liftsAll : MethodName := ⟨RX11, "liftsAll", "()V"⟩
abbrev cX11_frame : ByteArray := prog_13_method_52_code
def yX11_frame : MethodName := ⟨RX11, "frame", "(II)I"⟩
abbrev cX11_frameTells : ByteArray := prog_13_method_53_code
def yX11_frameTells : MethodName := ⟨RX11, "frameTells", "(II)I"⟩
abbrev cX11_place : ByteArray := prog_13_method_54_code
def yX11_place : MethodName := ⟨RX11, "place", "(II)I"⟩
abbrev cX11_mark : ByteArray := prog_13_method_55_code
def yX11_mark : MethodName := ⟨RX11, "mark", "(II)I"⟩
abbrev cX11_pageMany : ByteArray := prog_13_method_56_code
def yX11_pageMany : MethodName := ⟨RX11, "pageMany", "()I"⟩
abbrev cX11_layGrid : ByteArray := prog_13_method_57_code
def yX11_layGrid : MethodName := ⟨RX11, "layGrid", "(I)V"⟩
abbrev cX11_isFree : ByteArray := prog_13_method_58_code
def yX11_isFree : MethodName := ⟨RX11, "isFree", "(IIII)Z"⟩
abbrev cX11_isGreatest : ByteArray := prog_13_method_59_code
def yX11_isGreatest : MethodName := ⟨RX11, "isGreatest", "(IIII)Z"⟩
abbrev cX11_layFree : ByteArray := prog_13_method_60_code
def yX11_layFree : MethodName := ⟨RX11, "layFree", "(I)V"⟩
abbrev cX11_first : ByteArray := prog_13_method_61_code
def yX11_first : MethodName := ⟨RX11, "first", "(IIII)I"⟩
abbrev cX11_second : ByteArray := prog_13_method_62_code
def yX11_second : MethodName := ⟨RX11, "second", "(IIII)I"⟩
abbrev cX11_turns : ByteArray := prog_13_method_63_code
def yX11_turns : MethodName := ⟨RX11, "turns", "(I)I"⟩
abbrev cX11_findsRoom : ByteArray := prog_13_method_64_code
def yX11_findsRoom : MethodName := ⟨RX11, "findsRoom", "(II)Z"⟩
abbrev cX11_findsPage : ByteArray := prog_13_method_65_code
def yX11_findsPage : MethodName := ⟨RX11, "findsPage", "(I)I"⟩
abbrev cX11_sets : ByteArray := prog_13_method_66_code
def yX11_sets : MethodName := ⟨RX11, "sets", "(II)V"⟩
abbrev cX11_lifts : ByteArray := prog_13_method_67_code
def yX11_lifts : MethodName := ⟨RX11, "lifts", "(I)V"⟩
abbrev cX11_weight : ByteArray := prog_13_method_68_code
def yX11_weight : MethodName := ⟨RX11, "weight", "(II)I"⟩
abbrev cX11_setsAll : ByteArray := prog_13_method_69_code
def yX11_setsAll : MethodName := ⟨RX11, "setsAll", "(I)V"⟩
abbrev cX11_remember : ByteArray := prog_13_method_70_code
def yX11_remember : MethodName := ⟨RX11, "remember", "()V"⟩
abbrev cX11_undo : ByteArray := prog_13_method_71_code
def yX11_undo : MethodName := ⟨RX11, "undo", "(I)I"⟩
abbrev cX11_keep : ByteArray := prog_13_method_72_code
def yX11_keep : MethodName := ⟨RX11, "keep", "(I)I"⟩
abbrev cX11_on : ByteArray := prog_13_method_73_code
def yX11_on : MethodName := ⟨RX11, "on", "(I)I"⟩
abbrev cX11_set : ByteArray := prog_13_method_74_code
def yX11_set : MethodName := ⟨RX11, "set", "(I)I"⟩
abbrev cX11_lift : ByteArray := prog_13_method_75_code
def yX11_lift : MethodName := ⟨RX11, "lift", "(I)I"⟩
abbrev cX11_all : ByteArray := prog_13_method_76_code
def yX11_all : MethodName := ⟨RX11, "all", "(I)I"⟩
abbrev cX11_rule : ByteArray := prog_13_method_77_code
def yX11_rule : MethodName := ⟨RX11, "rule", "(I)I"⟩
abbrev cX11_isPage : ByteArray := prog_13_method_78_code
def yX11_isPage : MethodName := ⟨RX11, "isPage", "(I)Z"⟩
abbrev cX11_free : ByteArray := prog_13_method_79_code
def yX11_free : MethodName := ⟨RX11, "free", "(III)I"⟩
abbrev cX11_clamped : ByteArray := prog_13_method_80_code
def yX11_clamped : MethodName := ⟨RX11, "clamped", "(II)I"⟩
abbrev cX11_seen : ByteArray := prog_13_method_81_code
def yX11_seen : MethodName := ⟨RX11, "seen", "(III)I"⟩
abbrev cX11_point : ByteArray := prog_13_method_82_code
def yX11_point : MethodName := ⟨RX11, "point", "(III)I"⟩
abbrev cX11_takenOf : ByteArray := prog_13_method_83_code
def yX11_takenOf : MethodName := ⟨RX11, "takenOf", "(I)I"⟩
abbrev cX11_used : ByteArray := prog_13_method_84_code
def yX11_used : MethodName := ⟨RX11, "used", "(I)I"⟩
abbrev cX11_takes : ByteArray := prog_13_method_85_code
def yX11_takes : MethodName := ⟨RX11, "takes", "(I)I"⟩
abbrev cX11_tries : ByteArray := prog_13_method_86_code
def yX11_tries : MethodName := ⟨RX11, "tries", "(II)V"⟩
abbrev cX11_would : ByteArray := prog_13_method_87_code
def yX11_would : MethodName := ⟨RX11, "would", "(II)I"⟩
abbrev cX11_bitsOf : ByteArray := prog_13_method_88_code
def yX11_bitsOf : MethodName := ⟨RX11, "bitsOf", "(I)I"⟩
abbrev cX11_best : ByteArray := prog_13_method_89_code
def yX11_best : MethodName := ⟨RX11, "best", "()I"⟩
abbrev cX11_lots : ByteArray := prog_13_method_90_code
def yX11_lots : MethodName := ⟨RX11, "lots", "(II)I"⟩
abbrev cX11_setMany : ByteArray := prog_13_method_91_code
def yX11_setMany : MethodName := ⟨RX11, "setMany", "()I"⟩
abbrev cX11_allTaken : ByteArray := prog_13_method_92_code
def yX11_allTaken : MethodName := ⟨RX11, "allTaken", "()I"⟩
abbrev cX11_allFree : ByteArray := prog_13_method_93_code
def yX11_allFree : MethodName := ⟨RX11, "allFree", "()I"⟩
abbrev cX11_counted : ByteArray := prog_13_method_94_code
def yX11_counted : MethodName := ⟨RX11, "counted", "(I)I"⟩
abbrev cX11_count : ByteArray := prog_13_method_95_code
def yX11_count : MethodName := ⟨RX11, "count", "(I)I"⟩
abbrev cX11_adds : ByteArray := prog_13_method_96_code
def yX11_adds : MethodName := ⟨RX11, "adds", "(J)V"⟩
abbrev cX11_digest : ByteArray := prog_13_method_97_code
def yX11_digest : MethodName := ⟨RX11, "digest", "()J"⟩
def RL : String := "FrameSheetsLaw"
abbrev cL_law : ByteArray := code
def yL_law : MethodName := ⟨RL, "law", "([I)Z"⟩
abbrev vwCl : List vw_C := [(RX0, TX0, 12), (RX1, TX1, 2), (RX2, TX2, 2), (RX3, TX3, 8), (RX4, TX4, 5), (RX5, TX5, 2), (RX6, TX6, 2), (RX7, TX7, 5), (RX8, TX8, 3), (RX9, TX9, 2), (RX10, TX10, 13), (RX11, TX11, 45)]
end
section
theorem dX0_init_0 : decode cX0_init 0 = .ok (.aload_n 0, 1) := by decide +kernel
theorem dX0_init_1 : decode cX0_init 1 = .ok (.invokespecial 3, 3) := by decide +kernel
theorem dX0_init_4 : decode cX0_init 4 = .ok (.return_, 1) := by decide +kernel
theorem dX0_settle_0 : decode cX0_settle 0 = .ok (.aload_n 0, 1) := by decide +kernel
theorem dX0_settle_1 : decode cX0_settle 1 = .ok (.getfield 9, 3) := by decide +kernel
theorem dX0_settle_4 : decode cX0_settle 4 = .ok (.iconst 3, 1) := by decide +kernel
theorem dX0_settle_5 : decode cX0_settle 5 = .ok (.if_icmp .eq 7, 3) := by decide +kernel
theorem dX0_settle_8 : decode cX0_settle 8 = .ok (.iconst 1, 1) := by decide +kernel
theorem dX0_settle_9 : decode cX0_settle 9 = .ok (.goto 4, 3) := by decide +kernel
theorem dX0_settle_12 : decode cX0_settle 12 = .ok (.iconst 0, 1) := by decide +kernel
theorem dX0_settle_13 : decode cX0_settle 13 = .ok (.istore_n 2, 1) := by decide +kernel
theorem dX0_settle_14 : decode cX0_settle 14 = .ok (.aload_n 0, 1) := by decide +kernel
theorem dX0_settle_15 : decode cX0_settle 15 = .ok (.aload_n 0, 1) := by decide +kernel
theorem dX0_settle_16 : decode cX0_settle 16 = .ok (.getfield 9, 3) := by decide +kernel
theorem dX0_settle_19 : decode cX0_settle 19 = .ok (.iconst 2, 1) := by decide +kernel
theorem dX0_settle_20 : decode cX0_settle 20 = .ok (.if_icmp .ne 9, 3) := by decide +kernel
theorem dX0_settle_23 : decode cX0_settle 23 = .ok (.iload_n 1, 1) := by decide +kernel
theorem dX0_settle_24 : decode cX0_settle 24 = .ok (.iconst 1, 1) := by decide +kernel
theorem dX0_settle_25 : decode cX0_settle 25 = .ok (.iadd, 1) := by decide +kernel
theorem dX0_settle_26 : decode cX0_settle 26 = .ok (.goto 4, 3) := by decide +kernel
theorem dX0_settle_29 : decode cX0_settle 29 = .ok (.iload_n 1, 1) := by decide +kernel
theorem dX0_settle_30 : decode cX0_settle 30 = .ok (.putfield 15, 3) := by decide +kernel
theorem dX0_settle_33 : decode cX0_settle 33 = .ok (.aload_n 0, 1) := by decide +kernel
theorem dX0_settle_34 : decode cX0_settle 34 = .ok (.iload_n 2, 1) := by decide +kernel
theorem dX0_settle_35 : decode cX0_settle 35 = .ok (.ifCond .eq 20, 3) := by decide +kernel
theorem dX0_settle_38 : decode cX0_settle 38 = .ok (.aload_n 0, 1) := by decide +kernel
theorem dX0_settle_39 : decode cX0_settle 39 = .ok (.getfield 18, 3) := by decide +kernel
theorem dX0_settle_42 : decode cX0_settle 42 = .ok (.aload_n 0, 1) := by decide +kernel
theorem dX0_settle_43 : decode cX0_settle 43 = .ok (.getfield 21, 3) := by decide +kernel
theorem dX0_settle_46 : decode cX0_settle 46 = .ok (.isub, 1) := by decide +kernel
theorem dX0_settle_47 : decode cX0_settle 47 = .ok (.aload_n 0, 1) := by decide +kernel
theorem dX0_settle_48 : decode cX0_settle 48 = .ok (.getfield 24, 3) := by decide +kernel
theorem dX0_settle_51 : decode cX0_settle 51 = .ok (.isub, 1) := by decide +kernel
theorem dX0_settle_52 : decode cX0_settle 52 = .ok (.goto 7, 3) := by decide +kernel
theorem dX0_settle_55 : decode cX0_settle 55 = .ok (.aload_n 0, 1) := by decide +kernel
theorem dX0_settle_56 : decode cX0_settle 56 = .ok (.getfield 18, 3) := by decide +kernel
theorem dX0_settle_59 : decode cX0_settle 59 = .ok (.putfield 27, 3) := by decide +kernel
theorem dX0_settle_62 : decode cX0_settle 62 = .ok (.aload_n 0, 1) := by decide +kernel
theorem dX0_settle_63 : decode cX0_settle 63 = .ok (.iload_n 2, 1) := by decide +kernel
theorem dX0_settle_64 : decode cX0_settle 64 = .ok (.ifCond .eq 20, 3) := by decide +kernel
theorem dX0_settle_67 : decode cX0_settle 67 = .ok (.aload_n 0, 1) := by decide +kernel
theorem dX0_settle_68 : decode cX0_settle 68 = .ok (.getfield 30, 3) := by decide +kernel
theorem dX0_settle_71 : decode cX0_settle 71 = .ok (.aload_n 0, 1) := by decide +kernel
theorem dX0_settle_72 : decode cX0_settle 72 = .ok (.getfield 33, 3) := by decide +kernel
theorem dX0_settle_75 : decode cX0_settle 75 = .ok (.isub, 1) := by decide +kernel
theorem dX0_settle_76 : decode cX0_settle 76 = .ok (.aload_n 0, 1) := by decide +kernel
theorem dX0_settle_77 : decode cX0_settle 77 = .ok (.getfield 36, 3) := by decide +kernel
theorem dX0_settle_80 : decode cX0_settle 80 = .ok (.isub, 1) := by decide +kernel
theorem dX0_settle_81 : decode cX0_settle 81 = .ok (.goto 7, 3) := by decide +kernel
theorem dX0_settle_84 : decode cX0_settle 84 = .ok (.aload_n 0, 1) := by decide +kernel
theorem dX0_settle_85 : decode cX0_settle 85 = .ok (.getfield 30, 3) := by decide +kernel
theorem dX0_settle_88 : decode cX0_settle 88 = .ok (.putfield 39, 3) := by decide +kernel
theorem dX0_settle_91 : decode cX0_settle 91 = .ok (.aload_n 0, 1) := by decide +kernel
theorem dX0_settle_92 : decode cX0_settle 92 = .ok (.iload_n 2, 1) := by decide +kernel
theorem dX0_settle_93 : decode cX0_settle 93 = .ok (.ifCond .eq 10, 3) := by decide +kernel
theorem dX0_settle_96 : decode cX0_settle 96 = .ok (.aload_n 0, 1) := by decide +kernel
theorem dX0_settle_97 : decode cX0_settle 97 = .ok (.getfield 21, 3) := by decide +kernel
theorem dX0_settle_100 : decode cX0_settle 100 = .ok (.goto 4, 3) := by decide +kernel
theorem dX0_settle_103 : decode cX0_settle 103 = .ok (.iconst 0, 1) := by decide +kernel
theorem dX0_settle_104 : decode cX0_settle 104 = .ok (.putfield 42, 3) := by decide +kernel
theorem dX0_settle_107 : decode cX0_settle 107 = .ok (.aload_n 0, 1) := by decide +kernel
theorem dX0_settle_108 : decode cX0_settle 108 = .ok (.iload_n 2, 1) := by decide +kernel
theorem dX0_settle_109 : decode cX0_settle 109 = .ok (.ifCond .eq 10, 3) := by decide +kernel
theorem dX0_settle_112 : decode cX0_settle 112 = .ok (.aload_n 0, 1) := by decide +kernel
theorem dX0_settle_113 : decode cX0_settle 113 = .ok (.getfield 33, 3) := by decide +kernel
theorem dX0_settle_116 : decode cX0_settle 116 = .ok (.goto 4, 3) := by decide +kernel
theorem dX0_settle_119 : decode cX0_settle 119 = .ok (.iconst 0, 1) := by decide +kernel
theorem dX0_settle_120 : decode cX0_settle 120 = .ok (.putfield 45, 3) := by decide +kernel
theorem dX0_settle_123 : decode cX0_settle 123 = .ok (.return_, 1) := by decide +kernel
theorem dX0_isOf_0 : decode cX0_isOf 0 = .ok (.iload_n 1, 1) := by decide +kernel
theorem dX0_isOf_1 : decode cX0_isOf 1 = .ok (.ifCond .eq 24, 3) := by decide +kernel
theorem dX0_isOf_4 : decode cX0_isOf 4 = .ok (.aload_n 0, 1) := by decide +kernel
theorem dX0_isOf_5 : decode cX0_isOf 5 = .ok (.getfield 9, 3) := by decide +kernel
theorem dX0_isOf_8 : decode cX0_isOf 8 = .ok (.iload_n 1, 1) := by decide +kernel
theorem dX0_isOf_9 : decode cX0_isOf 9 = .ok (.if_icmp .eq 16, 3) := by decide +kernel
theorem dX0_isOf_12 : decode cX0_isOf 12 = .ok (.aload_n 0, 1) := by decide +kernel
theorem dX0_isOf_13 : decode cX0_isOf 13 = .ok (.getfield 9, 3) := by decide +kernel
theorem dX0_isOf_16 : decode cX0_isOf 16 = .ok (.iconst 3, 1) := by decide +kernel
theorem dX0_isOf_17 : decode cX0_isOf 17 = .ok (.if_icmp .ne 12, 3) := by decide +kernel
theorem dX0_isOf_20 : decode cX0_isOf 20 = .ok (.iload_n 1, 1) := by decide +kernel
theorem dX0_isOf_21 : decode cX0_isOf 21 = .ok (.iconst 1, 1) := by decide +kernel
theorem dX0_isOf_22 : decode cX0_isOf 22 = .ok (.if_icmp .ne 7, 3) := by decide +kernel
theorem dX0_isOf_25 : decode cX0_isOf 25 = .ok (.iconst 1, 1) := by decide +kernel
theorem dX0_isOf_26 : decode cX0_isOf 26 = .ok (.goto 4, 3) := by decide +kernel
theorem dX0_isOf_29 : decode cX0_isOf 29 = .ok (.iconst 0, 1) := by decide +kernel
theorem dX0_isOf_30 : decode cX0_isOf 30 = .ok (.ireturn, 1) := by decide +kernel
theorem dX0_mayTurn_0 : decode cX0_mayTurn 0 = .ok (.aload_n 0, 1) := by decide +kernel
theorem dX0_mayTurn_1 : decode cX0_mayTurn 1 = .ok (.iconst 1, 1) := by decide +kernel
theorem dX0_mayTurn_2 : decode cX0_mayTurn 2 = .ok (.invokevirtual 48, 3) := by decide +kernel
theorem dX0_mayTurn_5 : decode cX0_mayTurn 5 = .ok (.ifCond .ne 7, 3) := by decide +kernel
theorem dX0_mayTurn_8 : decode cX0_mayTurn 8 = .ok (.iconst 1, 1) := by decide +kernel
theorem dX0_mayTurn_9 : decode cX0_mayTurn 9 = .ok (.goto 4, 3) := by decide +kernel
theorem dX0_mayTurn_12 : decode cX0_mayTurn 12 = .ok (.iconst 0, 1) := by decide +kernel
theorem dX0_mayTurn_13 : decode cX0_mayTurn 13 = .ok (.ireturn, 1) := by decide +kernel
theorem dX0_needsAcross_0 : decode cX0_needsAcross 0 = .ok (.iload_n 1, 1) := by decide +kernel
theorem dX0_needsAcross_1 : decode cX0_needsAcross 1 = .ok (.ifCond .eq 10, 3) := by decide +kernel
theorem dX0_needsAcross_4 : decode cX0_needsAcross 4 = .ok (.aload_n 0, 1) := by decide +kernel
theorem dX0_needsAcross_5 : decode cX0_needsAcross 5 = .ok (.getfield 39, 3) := by decide +kernel
theorem dX0_needsAcross_8 : decode cX0_needsAcross 8 = .ok (.goto 7, 3) := by decide +kernel
theorem dX0_needsAcross_11 : decode cX0_needsAcross 11 = .ok (.aload_n 0, 1) := by decide +kernel
theorem dX0_needsAcross_12 : decode cX0_needsAcross 12 = .ok (.getfield 27, 3) := by decide +kernel
theorem dX0_needsAcross_15 : decode cX0_needsAcross 15 = .ok (.iconst 2, 1) := by decide +kernel
theorem dX0_needsAcross_16 : decode cX0_needsAcross 16 = .ok (.aload_n 0, 1) := by decide +kernel
theorem dX0_needsAcross_17 : decode cX0_needsAcross 17 = .ok (.getfield 15, 3) := by decide +kernel
theorem dX0_needsAcross_20 : decode cX0_needsAcross 20 = .ok (.imul, 1) := by decide +kernel
theorem dX0_needsAcross_21 : decode cX0_needsAcross 21 = .ok (.iadd, 1) := by decide +kernel
theorem dX0_needsAcross_22 : decode cX0_needsAcross 22 = .ok (.ireturn, 1) := by decide +kernel
theorem dX0_needsDown_0 : decode cX0_needsDown 0 = .ok (.iload_n 1, 1) := by decide +kernel
theorem dX0_needsDown_1 : decode cX0_needsDown 1 = .ok (.ifCond .eq 10, 3) := by decide +kernel
theorem dX0_needsDown_4 : decode cX0_needsDown 4 = .ok (.aload_n 0, 1) := by decide +kernel
theorem dX0_needsDown_5 : decode cX0_needsDown 5 = .ok (.getfield 27, 3) := by decide +kernel
theorem dX0_needsDown_8 : decode cX0_needsDown 8 = .ok (.goto 7, 3) := by decide +kernel
theorem dX0_needsDown_11 : decode cX0_needsDown 11 = .ok (.aload_n 0, 1) := by decide +kernel
theorem dX0_needsDown_12 : decode cX0_needsDown 12 = .ok (.getfield 39, 3) := by decide +kernel
theorem dX0_needsDown_15 : decode cX0_needsDown 15 = .ok (.iconst 2, 1) := by decide +kernel
theorem dX0_needsDown_16 : decode cX0_needsDown 16 = .ok (.aload_n 0, 1) := by decide +kernel
theorem dX0_needsDown_17 : decode cX0_needsDown 17 = .ok (.getfield 15, 3) := by decide +kernel
theorem dX0_needsDown_20 : decode cX0_needsDown 20 = .ok (.imul, 1) := by decide +kernel
theorem dX0_needsDown_21 : decode cX0_needsDown 21 = .ok (.iadd, 1) := by decide +kernel
theorem dX0_needsDown_22 : decode cX0_needsDown 22 = .ok (.ireturn, 1) := by decide +kernel
theorem dX0_needsPlaces_0 : decode cX0_needsPlaces 0 = .ok (.aload_n 0, 1) := by decide +kernel
theorem dX0_needsPlaces_1 : decode cX0_needsPlaces 1 = .ok (.iconst 0, 1) := by decide +kernel
theorem dX0_needsPlaces_2 : decode cX0_needsPlaces 2 = .ok (.invokevirtual 52, 3) := by decide +kernel
theorem dX0_needsPlaces_5 : decode cX0_needsPlaces 5 = .ok (.aload_n 0, 1) := by decide +kernel
theorem dX0_needsPlaces_6 : decode cX0_needsPlaces 6 = .ok (.iconst 0, 1) := by decide +kernel
theorem dX0_needsPlaces_7 : decode cX0_needsPlaces 7 = .ok (.invokevirtual 56, 3) := by decide +kernel
theorem dX0_needsPlaces_10 : decode cX0_needsPlaces 10 = .ok (.imul, 1) := by decide +kernel
theorem dX0_needsPlaces_11 : decode cX0_needsPlaces 11 = .ok (.ireturn, 1) := by decide +kernel
theorem dX0_edgePlaces_0 : decode cX0_edgePlaces 0 = .ok (.aload_n 0, 1) := by decide +kernel
theorem dX0_edgePlaces_1 : decode cX0_edgePlaces 1 = .ok (.invokevirtual 59, 3) := by decide +kernel
theorem dX0_edgePlaces_4 : decode cX0_edgePlaces 4 = .ok (.aload_n 0, 1) := by decide +kernel
theorem dX0_edgePlaces_5 : decode cX0_edgePlaces 5 = .ok (.getfield 27, 3) := by decide +kernel
theorem dX0_edgePlaces_8 : decode cX0_edgePlaces 8 = .ok (.aload_n 0, 1) := by decide +kernel
theorem dX0_edgePlaces_9 : decode cX0_edgePlaces 9 = .ok (.getfield 39, 3) := by decide +kernel
theorem dX0_edgePlaces_12 : decode cX0_edgePlaces 12 = .ok (.imul, 1) := by decide +kernel
theorem dX0_edgePlaces_13 : decode cX0_edgePlaces 13 = .ok (.isub, 1) := by decide +kernel
theorem dX0_edgePlaces_14 : decode cX0_edgePlaces 14 = .ok (.ireturn, 1) := by decide +kernel
theorem dX0_emptyPoints_0 : decode cX0_emptyPoints 0 = .ok (.aload_n 0, 1) := by decide +kernel
theorem dX0_emptyPoints_1 : decode cX0_emptyPoints 1 = .ok (.getfield 18, 3) := by decide +kernel
theorem dX0_emptyPoints_4 : decode cX0_emptyPoints 4 = .ok (.aload_n 0, 1) := by decide +kernel
theorem dX0_emptyPoints_5 : decode cX0_emptyPoints 5 = .ok (.getfield 30, 3) := by decide +kernel
theorem dX0_emptyPoints_8 : decode cX0_emptyPoints 8 = .ok (.imul, 1) := by decide +kernel
theorem dX0_emptyPoints_9 : decode cX0_emptyPoints 9 = .ok (.aload_n 0, 1) := by decide +kernel
theorem dX0_emptyPoints_10 : decode cX0_emptyPoints 10 = .ok (.getfield 18, 3) := by decide +kernel
theorem dX0_emptyPoints_13 : decode cX0_emptyPoints 13 = .ok (.aload_n 0, 1) := by decide +kernel
theorem dX0_emptyPoints_14 : decode cX0_emptyPoints 14 = .ok (.getfield 21, 3) := by decide +kernel
theorem dX0_emptyPoints_17 : decode cX0_emptyPoints 17 = .ok (.isub, 1) := by decide +kernel
theorem dX0_emptyPoints_18 : decode cX0_emptyPoints 18 = .ok (.aload_n 0, 1) := by decide +kernel
theorem dX0_emptyPoints_19 : decode cX0_emptyPoints 19 = .ok (.getfield 24, 3) := by decide +kernel
theorem dX0_emptyPoints_22 : decode cX0_emptyPoints 22 = .ok (.isub, 1) := by decide +kernel
theorem dX0_emptyPoints_23 : decode cX0_emptyPoints 23 = .ok (.aload_n 0, 1) := by decide +kernel
theorem dX0_emptyPoints_24 : decode cX0_emptyPoints 24 = .ok (.getfield 30, 3) := by decide +kernel
theorem dX0_emptyPoints_27 : decode cX0_emptyPoints 27 = .ok (.aload_n 0, 1) := by decide +kernel
theorem dX0_emptyPoints_28 : decode cX0_emptyPoints 28 = .ok (.getfield 33, 3) := by decide +kernel
theorem dX0_emptyPoints_31 : decode cX0_emptyPoints 31 = .ok (.isub, 1) := by decide +kernel
theorem dX0_emptyPoints_32 : decode cX0_emptyPoints 32 = .ok (.aload_n 0, 1) := by decide +kernel
theorem dX0_emptyPoints_33 : decode cX0_emptyPoints 33 = .ok (.getfield 36, 3) := by decide +kernel
theorem dX0_emptyPoints_36 : decode cX0_emptyPoints 36 = .ok (.isub, 1) := by decide +kernel
theorem dX0_emptyPoints_37 : decode cX0_emptyPoints 37 = .ok (.imul, 1) := by decide +kernel
theorem dX0_emptyPoints_38 : decode cX0_emptyPoints 38 = .ok (.isub, 1) := by decide +kernel
theorem dX0_emptyPoints_39 : decode cX0_emptyPoints 39 = .ok (.ireturn, 1) := by decide +kernel
theorem dX0_part_0 : decode cX0_part 0 = .ok (.iload_n 1, 1) := by decide +kernel
theorem dX0_part_1 : decode cX0_part 1 = .ok (.tableswitch 52 0 3 #[31, 36, 41, 46], 31) := by decide +kernel
theorem dX0_part_32 : decode cX0_part 32 = .ok (.aload_n 0, 1) := by decide +kernel
theorem dX0_part_33 : decode cX0_part 33 = .ok (.getfield 9, 3) := by decide +kernel
theorem dX0_part_36 : decode cX0_part 36 = .ok (.ireturn, 1) := by decide +kernel
theorem dX0_part_37 : decode cX0_part 37 = .ok (.aload_n 0, 1) := by decide +kernel
theorem dX0_part_38 : decode cX0_part 38 = .ok (.getfield 27, 3) := by decide +kernel
theorem dX0_part_41 : decode cX0_part 41 = .ok (.ireturn, 1) := by decide +kernel
theorem dX0_part_42 : decode cX0_part 42 = .ok (.aload_n 0, 1) := by decide +kernel
theorem dX0_part_43 : decode cX0_part 43 = .ok (.getfield 39, 3) := by decide +kernel
theorem dX0_part_46 : decode cX0_part 46 = .ok (.ireturn, 1) := by decide +kernel
theorem dX0_part_47 : decode cX0_part 47 = .ok (.aload_n 0, 1) := by decide +kernel
theorem dX0_part_48 : decode cX0_part 48 = .ok (.iconst 0, 1) := by decide +kernel
theorem dX0_part_49 : decode cX0_part 49 = .ok (.invokevirtual 52, 3) := by decide +kernel
theorem dX0_part_52 : decode cX0_part 52 = .ok (.ireturn, 1) := by decide +kernel
theorem dX0_part_53 : decode cX0_part 53 = .ok (.aload_n 0, 1) := by decide +kernel
theorem dX0_part_54 : decode cX0_part 54 = .ok (.iconst 0, 1) := by decide +kernel
theorem dX0_part_55 : decode cX0_part 55 = .ok (.invokevirtual 56, 3) := by decide +kernel
theorem dX0_part_58 : decode cX0_part 58 = .ok (.ireturn, 1) := by decide +kernel
theorem dX1_init_0 : decode cX1_init 0 = .ok (.aload_n 0, 1) := by decide +kernel
theorem dX1_init_1 : decode cX1_init 1 = .ok (.invokespecial 3, 3) := by decide +kernel
theorem dX1_init_4 : decode cX1_init 4 = .ok (.aload_n 0, 1) := by decide +kernel
theorem dX1_init_5 : decode cX1_init 5 = .ok (.bipush 8, 2) := by decide +kernel
theorem dX1_init_7 : decode cX1_init 7 = .ok (.newarray .int, 2) := by decide +kernel
theorem dX1_init_9 : decode cX1_init 9 = .ok (.putfield 9, 3) := by decide +kernel
theorem dX1_init_12 : decode cX1_init 12 = .ok (.aload_n 0, 1) := by decide +kernel
theorem dX1_init_13 : decode cX1_init 13 = .ok (.iconst 0, 1) := by decide +kernel
theorem dX1_init_14 : decode cX1_init 14 = .ok (.putfield 15, 3) := by decide +kernel
theorem dX1_init_17 : decode cX1_init 17 = .ok (.iconst 0, 1) := by decide +kernel
theorem dX1_init_18 : decode cX1_init 18 = .ok (.istore_n 1, 1) := by decide +kernel
theorem dX1_init_19 : decode cX1_init 19 = .ok (.iload_n 1, 1) := by decide +kernel
theorem dX1_init_20 : decode cX1_init 20 = .ok (.bipush 8, 2) := by decide +kernel
theorem dX1_init_22 : decode cX1_init 22 = .ok (.if_icmp .ge 17, 3) := by decide +kernel
theorem dX1_init_25 : decode cX1_init 25 = .ok (.aload_n 0, 1) := by decide +kernel
theorem dX1_init_26 : decode cX1_init 26 = .ok (.getfield 9, 3) := by decide +kernel
theorem dX1_init_29 : decode cX1_init 29 = .ok (.iload_n 1, 1) := by decide +kernel
theorem dX1_init_30 : decode cX1_init 30 = .ok (.bipush (-9), 2) := by decide +kernel
theorem dX1_init_32 : decode cX1_init 32 = .ok (.iastore, 1) := by decide +kernel
theorem dX1_init_33 : decode cX1_init 33 = .ok (.iinc 1 1, 3) := by decide +kernel
theorem dX1_init_36 : decode cX1_init 36 = .ok (.goto (-17), 3) := by decide +kernel
theorem dX1_init_39 : decode cX1_init 39 = .ok (.return_, 1) := by decide +kernel
theorem dX1_spotAt_0 : decode cX1_spotAt 0 = .ok (.iload_n 0, 1) := by decide +kernel
theorem dX1_spotAt_1 : decode cX1_spotAt 1 = .ok (.bipush 32, 2) := by decide +kernel
theorem dX1_spotAt_3 : decode cX1_spotAt 3 = .ok (.imul, 1) := by decide +kernel
theorem dX1_spotAt_4 : decode cX1_spotAt 4 = .ok (.iload_n 1, 1) := by decide +kernel
theorem dX1_spotAt_5 : decode cX1_spotAt 5 = .ok (.iconst 2, 1) := by decide +kernel
theorem dX1_spotAt_6 : decode cX1_spotAt 6 = .ok (.imul, 1) := by decide +kernel
theorem dX1_spotAt_7 : decode cX1_spotAt 7 = .ok (.iadd, 1) := by decide +kernel
theorem dX1_spotAt_8 : decode cX1_spotAt 8 = .ok (.iload_n 2, 1) := by decide +kernel
theorem dX1_spotAt_9 : decode cX1_spotAt 9 = .ok (.ifCond .eq 7, 3) := by decide +kernel
theorem dX1_spotAt_12 : decode cX1_spotAt 12 = .ok (.iconst 1, 1) := by decide +kernel
theorem dX1_spotAt_13 : decode cX1_spotAt 13 = .ok (.goto 4, 3) := by decide +kernel
theorem dX1_spotAt_16 : decode cX1_spotAt 16 = .ok (.iconst 0, 1) := by decide +kernel
theorem dX1_spotAt_17 : decode cX1_spotAt 17 = .ok (.iadd, 1) := by decide +kernel
theorem dX1_spotAt_18 : decode cX1_spotAt 18 = .ok (.ireturn, 1) := by decide +kernel
theorem dX1_spotOnPage_0 : decode cX1_spotOnPage 0 = .ok (.iload_n 0, 1) := by decide +kernel
theorem dX1_spotOnPage_1 : decode cX1_spotOnPage 1 = .ok (.sipush 512, 3) := by decide +kernel
theorem dX1_spotOnPage_4 : decode cX1_spotOnPage 4 = .ok (.imul, 1) := by decide +kernel
theorem dX1_spotOnPage_5 : decode cX1_spotOnPage 5 = .ok (.iload_n 1, 1) := by decide +kernel
theorem dX1_spotOnPage_6 : decode cX1_spotOnPage 6 = .ok (.iadd, 1) := by decide +kernel
theorem dX1_spotOnPage_7 : decode cX1_spotOnPage 7 = .ok (.ireturn, 1) := by decide +kernel
theorem dX1_liftAll_0 : decode cX1_liftAll 0 = .ok (.iconst 0, 1) := by decide +kernel
theorem dX1_liftAll_1 : decode cX1_liftAll 1 = .ok (.istore_n 1, 1) := by decide +kernel
theorem dX1_liftAll_2 : decode cX1_liftAll 2 = .ok (.iload_n 1, 1) := by decide +kernel
theorem dX1_liftAll_3 : decode cX1_liftAll 3 = .ok (.bipush 8, 2) := by decide +kernel
theorem dX1_liftAll_5 : decode cX1_liftAll 5 = .ok (.if_icmp .ge 17, 3) := by decide +kernel
theorem dX1_liftAll_8 : decode cX1_liftAll 8 = .ok (.aload_n 0, 1) := by decide +kernel
theorem dX1_liftAll_9 : decode cX1_liftAll 9 = .ok (.getfield 9, 3) := by decide +kernel
theorem dX1_liftAll_12 : decode cX1_liftAll 12 = .ok (.iload_n 1, 1) := by decide +kernel
theorem dX1_liftAll_13 : decode cX1_liftAll 13 = .ok (.bipush (-9), 2) := by decide +kernel
theorem dX1_liftAll_15 : decode cX1_liftAll 15 = .ok (.iastore, 1) := by decide +kernel
theorem dX1_liftAll_16 : decode cX1_liftAll 16 = .ok (.iinc 1 1, 3) := by decide +kernel
theorem dX1_liftAll_19 : decode cX1_liftAll 19 = .ok (.goto (-17), 3) := by decide +kernel
theorem dX1_liftAll_22 : decode cX1_liftAll 22 = .ok (.return_, 1) := by decide +kernel
theorem dX1_isSet_0 : decode cX1_isSet 0 = .ok (.aload_n 0, 1) := by decide +kernel
theorem dX1_isSet_1 : decode cX1_isSet 1 = .ok (.getfield 9, 3) := by decide +kernel
theorem dX1_isSet_4 : decode cX1_isSet 4 = .ok (.iload_n 1, 1) := by decide +kernel
theorem dX1_isSet_5 : decode cX1_isSet 5 = .ok (.iaload, 1) := by decide +kernel
theorem dX1_isSet_6 : decode cX1_isSet 6 = .ok (.bipush (-9), 2) := by decide +kernel
theorem dX1_isSet_8 : decode cX1_isSet 8 = .ok (.if_icmp .eq 7, 3) := by decide +kernel
theorem dX1_isSet_11 : decode cX1_isSet 11 = .ok (.iconst 1, 1) := by decide +kernel
theorem dX1_isSet_12 : decode cX1_isSet 12 = .ok (.goto 4, 3) := by decide +kernel
theorem dX1_isSet_15 : decode cX1_isSet 15 = .ok (.iconst 0, 1) := by decide +kernel
theorem dX1_isSet_16 : decode cX1_isSet 16 = .ok (.ireturn, 1) := by decide +kernel
theorem dX1_pageOf_0 : decode cX1_pageOf 0 = .ok (.aload_n 0, 1) := by decide +kernel
theorem dX1_pageOf_1 : decode cX1_pageOf 1 = .ok (.getfield 9, 3) := by decide +kernel
theorem dX1_pageOf_4 : decode cX1_pageOf 4 = .ok (.iload_n 1, 1) := by decide +kernel
theorem dX1_pageOf_5 : decode cX1_pageOf 5 = .ok (.iaload, 1) := by decide +kernel
theorem dX1_pageOf_6 : decode cX1_pageOf 6 = .ok (.sipush 512, 3) := by decide +kernel
theorem dX1_pageOf_9 : decode cX1_pageOf 9 = .ok (.idiv, 1) := by decide +kernel
theorem dX1_pageOf_10 : decode cX1_pageOf 10 = .ok (.ireturn, 1) := by decide +kernel
theorem dX1_xOf_0 : decode cX1_xOf 0 = .ok (.aload_n 0, 1) := by decide +kernel
theorem dX1_xOf_1 : decode cX1_xOf 1 = .ok (.getfield 9, 3) := by decide +kernel
theorem dX1_xOf_4 : decode cX1_xOf 4 = .ok (.iload_n 1, 1) := by decide +kernel
theorem dX1_xOf_5 : decode cX1_xOf 5 = .ok (.iaload, 1) := by decide +kernel
theorem dX1_xOf_6 : decode cX1_xOf 6 = .ok (.sipush 512, 3) := by decide +kernel
theorem dX1_xOf_9 : decode cX1_xOf 9 = .ok (.irem, 1) := by decide +kernel
theorem dX1_xOf_10 : decode cX1_xOf 10 = .ok (.bipush 32, 2) := by decide +kernel
theorem dX1_xOf_12 : decode cX1_xOf 12 = .ok (.idiv, 1) := by decide +kernel
theorem dX1_xOf_13 : decode cX1_xOf 13 = .ok (.ireturn, 1) := by decide +kernel
theorem dX1_yOf_0 : decode cX1_yOf 0 = .ok (.aload_n 0, 1) := by decide +kernel
theorem dX1_yOf_1 : decode cX1_yOf 1 = .ok (.getfield 9, 3) := by decide +kernel
theorem dX1_yOf_4 : decode cX1_yOf 4 = .ok (.iload_n 1, 1) := by decide +kernel
theorem dX1_yOf_5 : decode cX1_yOf 5 = .ok (.iaload, 1) := by decide +kernel
theorem dX1_yOf_6 : decode cX1_yOf 6 = .ok (.bipush 32, 2) := by decide +kernel
theorem dX1_yOf_8 : decode cX1_yOf 8 = .ok (.irem, 1) := by decide +kernel
theorem dX1_yOf_9 : decode cX1_yOf 9 = .ok (.iconst 2, 1) := by decide +kernel
theorem dX1_yOf_10 : decode cX1_yOf 10 = .ok (.idiv, 1) := by decide +kernel
theorem dX1_yOf_11 : decode cX1_yOf 11 = .ok (.ireturn, 1) := by decide +kernel
theorem dX1_isTurned_0 : decode cX1_isTurned 0 = .ok (.aload_n 0, 1) := by decide +kernel
theorem dX1_isTurned_1 : decode cX1_isTurned 1 = .ok (.getfield 9, 3) := by decide +kernel
theorem dX1_isTurned_4 : decode cX1_isTurned 4 = .ok (.iload_n 1, 1) := by decide +kernel
theorem dX1_isTurned_5 : decode cX1_isTurned 5 = .ok (.iaload, 1) := by decide +kernel
theorem dX1_isTurned_6 : decode cX1_isTurned 6 = .ok (.iconst 2, 1) := by decide +kernel
theorem dX1_isTurned_7 : decode cX1_isTurned 7 = .ok (.irem, 1) := by decide +kernel
theorem dX1_isTurned_8 : decode cX1_isTurned 8 = .ok (.iconst 1, 1) := by decide +kernel
theorem dX1_isTurned_9 : decode cX1_isTurned 9 = .ok (.if_icmp .ne 7, 3) := by decide +kernel
theorem dX1_isTurned_12 : decode cX1_isTurned 12 = .ok (.iconst 1, 1) := by decide +kernel
theorem dX1_isTurned_13 : decode cX1_isTurned 13 = .ok (.goto 4, 3) := by decide +kernel
theorem dX1_isTurned_16 : decode cX1_isTurned 16 = .ok (.iconst 0, 1) := by decide +kernel
theorem dX1_isTurned_17 : decode cX1_isTurned 17 = .ok (.ireturn, 1) := by decide +kernel
theorem dX1_part_0 : decode cX1_part 0 = .ok (.iload_n 2, 1) := by decide +kernel
theorem dX1_part_1 : decode cX1_part 1 = .ok (.tableswitch 45 0 2 #[27, 33, 39], 27) := by decide +kernel
theorem dX1_part_28 : decode cX1_part 28 = .ok (.aload_n 0, 1) := by decide +kernel
theorem dX1_part_29 : decode cX1_part 29 = .ok (.iload_n 1, 1) := by decide +kernel
theorem dX1_part_30 : decode cX1_part 30 = .ok (.invokevirtual 19, 3) := by decide +kernel
theorem dX1_part_33 : decode cX1_part 33 = .ok (.ireturn, 1) := by decide +kernel
theorem dX1_part_34 : decode cX1_part 34 = .ok (.aload_n 0, 1) := by decide +kernel
theorem dX1_part_35 : decode cX1_part 35 = .ok (.iload_n 1, 1) := by decide +kernel
theorem dX1_part_36 : decode cX1_part 36 = .ok (.invokevirtual 23, 3) := by decide +kernel
theorem dX1_part_39 : decode cX1_part 39 = .ok (.ireturn, 1) := by decide +kernel
theorem dX1_part_40 : decode cX1_part 40 = .ok (.aload_n 0, 1) := by decide +kernel
theorem dX1_part_41 : decode cX1_part 41 = .ok (.iload_n 1, 1) := by decide +kernel
theorem dX1_part_42 : decode cX1_part 42 = .ok (.invokevirtual 26, 3) := by decide +kernel
theorem dX1_part_45 : decode cX1_part 45 = .ok (.ireturn, 1) := by decide +kernel
theorem dX1_part_46 : decode cX1_part 46 = .ok (.aload_n 0, 1) := by decide +kernel
theorem dX1_part_47 : decode cX1_part 47 = .ok (.iload_n 1, 1) := by decide +kernel
theorem dX1_part_48 : decode cX1_part 48 = .ok (.invokevirtual 29, 3) := by decide +kernel
theorem dX1_part_51 : decode cX1_part 51 = .ok (.ifCond .eq 7, 3) := by decide +kernel
theorem dX1_part_54 : decode cX1_part 54 = .ok (.iconst 1, 1) := by decide +kernel
theorem dX1_part_55 : decode cX1_part 55 = .ok (.goto 4, 3) := by decide +kernel
theorem dX1_part_58 : decode cX1_part 58 = .ok (.iconst 0, 1) := by decide +kernel
theorem dX1_part_59 : decode cX1_part 59 = .ok (.ireturn, 1) := by decide +kernel
theorem dX1_pages_0 : decode cX1_pages 0 = .ok (.iconst 0, 1) := by decide +kernel
theorem dX1_pages_1 : decode cX1_pages 1 = .ok (.istore_n 1, 1) := by decide +kernel
theorem dX1_pages_2 : decode cX1_pages 2 = .ok (.iconst 0, 1) := by decide +kernel
theorem dX1_pages_3 : decode cX1_pages 3 = .ok (.istore_n 2, 1) := by decide +kernel
theorem dX1_pages_4 : decode cX1_pages 4 = .ok (.iload_n 2, 1) := by decide +kernel
theorem dX1_pages_5 : decode cX1_pages 5 = .ok (.bipush 8, 2) := by decide +kernel
theorem dX1_pages_7 : decode cX1_pages 7 = .ok (.if_icmp .ge 29, 3) := by decide +kernel
theorem dX1_pages_10 : decode cX1_pages 10 = .ok (.aload_n 0, 1) := by decide +kernel
theorem dX1_pages_11 : decode cX1_pages 11 = .ok (.iload_n 2, 1) := by decide +kernel
theorem dX1_pages_12 : decode cX1_pages 12 = .ok (.invokevirtual 33, 3) := by decide +kernel
theorem dX1_pages_15 : decode cX1_pages 15 = .ok (.ifCond .eq 15, 3) := by decide +kernel
theorem dX1_pages_18 : decode cX1_pages 18 = .ok (.iload_n 1, 1) := by decide +kernel
theorem dX1_pages_19 : decode cX1_pages 19 = .ok (.aload_n 0, 1) := by decide +kernel
theorem dX1_pages_20 : decode cX1_pages 20 = .ok (.iload_n 2, 1) := by decide +kernel
theorem dX1_pages_21 : decode cX1_pages 21 = .ok (.invokevirtual 19, 3) := by decide +kernel
theorem dX1_pages_24 : decode cX1_pages 24 = .ok (.iconst 1, 1) := by decide +kernel
theorem dX1_pages_25 : decode cX1_pages 25 = .ok (.iadd, 1) := by decide +kernel
theorem dX1_pages_26 : decode cX1_pages 26 = .ok (.invokestatic 36, 3) := by decide +kernel
theorem dX1_pages_29 : decode cX1_pages 29 = .ok (.istore_n 1, 1) := by decide +kernel
theorem dX1_pages_30 : decode cX1_pages 30 = .ok (.iinc 2 1, 3) := by decide +kernel
theorem dX1_pages_33 : decode cX1_pages 33 = .ok (.goto (-29), 3) := by decide +kernel
theorem dX1_pages_36 : decode cX1_pages 36 = .ok (.iload_n 1, 1) := by decide +kernel
theorem dX1_pages_37 : decode cX1_pages 37 = .ok (.ireturn, 1) := by decide +kernel
theorem dX1_framesSet_0 : decode cX1_framesSet 0 = .ok (.iconst 0, 1) := by decide +kernel
theorem dX1_framesSet_1 : decode cX1_framesSet 1 = .ok (.istore_n 1, 1) := by decide +kernel
theorem dX1_framesSet_2 : decode cX1_framesSet 2 = .ok (.iconst 0, 1) := by decide +kernel
theorem dX1_framesSet_3 : decode cX1_framesSet 3 = .ok (.istore_n 2, 1) := by decide +kernel
theorem dX1_framesSet_4 : decode cX1_framesSet 4 = .ok (.iload_n 2, 1) := by decide +kernel
theorem dX1_framesSet_5 : decode cX1_framesSet 5 = .ok (.bipush 8, 2) := by decide +kernel
theorem dX1_framesSet_7 : decode cX1_framesSet 7 = .ok (.if_icmp .ge 20, 3) := by decide +kernel
theorem dX1_framesSet_10 : decode cX1_framesSet 10 = .ok (.aload_n 0, 1) := by decide +kernel
theorem dX1_framesSet_11 : decode cX1_framesSet 11 = .ok (.iload_n 2, 1) := by decide +kernel
theorem dX1_framesSet_12 : decode cX1_framesSet 12 = .ok (.invokevirtual 33, 3) := by decide +kernel
theorem dX1_framesSet_15 : decode cX1_framesSet 15 = .ok (.ifCond .eq 6, 3) := by decide +kernel
theorem dX1_framesSet_18 : decode cX1_framesSet 18 = .ok (.iinc 1 1, 3) := by decide +kernel
theorem dX1_framesSet_21 : decode cX1_framesSet 21 = .ok (.iinc 2 1, 3) := by decide +kernel
theorem dX1_framesSet_24 : decode cX1_framesSet 24 = .ok (.goto (-20), 3) := by decide +kernel
theorem dX1_framesSet_27 : decode cX1_framesSet 27 = .ok (.iload_n 1, 1) := by decide +kernel
theorem dX1_framesSet_28 : decode cX1_framesSet 28 = .ok (.ireturn, 1) := by decide +kernel
theorem dX1_framesTurned_0 : decode cX1_framesTurned 0 = .ok (.iconst 0, 1) := by decide +kernel
theorem dX1_framesTurned_1 : decode cX1_framesTurned 1 = .ok (.istore_n 1, 1) := by decide +kernel
theorem dX1_framesTurned_2 : decode cX1_framesTurned 2 = .ok (.iconst 0, 1) := by decide +kernel
theorem dX1_framesTurned_3 : decode cX1_framesTurned 3 = .ok (.istore_n 2, 1) := by decide +kernel
theorem dX1_framesTurned_4 : decode cX1_framesTurned 4 = .ok (.iload_n 2, 1) := by decide +kernel
theorem dX1_framesTurned_5 : decode cX1_framesTurned 5 = .ok (.bipush 8, 2) := by decide +kernel
theorem dX1_framesTurned_7 : decode cX1_framesTurned 7 = .ok (.if_icmp .ge 28, 3) := by decide +kernel
theorem dX1_framesTurned_10 : decode cX1_framesTurned 10 = .ok (.aload_n 0, 1) := by decide +kernel
theorem dX1_framesTurned_11 : decode cX1_framesTurned 11 = .ok (.iload_n 2, 1) := by decide +kernel
theorem dX1_framesTurned_12 : decode cX1_framesTurned 12 = .ok (.invokevirtual 33, 3) := by decide +kernel
theorem dX1_framesTurned_15 : decode cX1_framesTurned 15 = .ok (.ifCond .eq 14, 3) := by decide +kernel
theorem dX1_framesTurned_18 : decode cX1_framesTurned 18 = .ok (.aload_n 0, 1) := by decide +kernel
theorem dX1_framesTurned_19 : decode cX1_framesTurned 19 = .ok (.iload_n 2, 1) := by decide +kernel
theorem dX1_framesTurned_20 : decode cX1_framesTurned 20 = .ok (.invokevirtual 29, 3) := by decide +kernel
theorem dX1_framesTurned_23 : decode cX1_framesTurned 23 = .ok (.ifCond .eq 6, 3) := by decide +kernel
theorem dX1_framesTurned_26 : decode cX1_framesTurned 26 = .ok (.iinc 1 1, 3) := by decide +kernel
theorem dX1_framesTurned_29 : decode cX1_framesTurned 29 = .ok (.iinc 2 1, 3) := by decide +kernel
theorem dX1_framesTurned_32 : decode cX1_framesTurned 32 = .ok (.goto (-28), 3) := by decide +kernel
theorem dX1_framesTurned_35 : decode cX1_framesTurned 35 = .ok (.iload_n 1, 1) := by decide +kernel
theorem dX1_framesTurned_36 : decode cX1_framesTurned 36 = .ok (.ireturn, 1) := by decide +kernel
theorem dX2_init_0 : decode cX2_init 0 = .ok (.aload_n 0, 1) := by decide +kernel
theorem dX2_init_1 : decode cX2_init 1 = .ok (.invokespecial 3, 3) := by decide +kernel
theorem dX2_init_4 : decode cX2_init 4 = .ok (.aload_n 0, 1) := by decide +kernel
theorem dX2_init_5 : decode cX2_init 5 = .ok (.new 9, 3) := by decide +kernel
theorem dX2_init_8 : decode cX2_init 8 = .ok (.dup, 1) := by decide +kernel
theorem dX2_init_9 : decode cX2_init 9 = .ok (.invokespecial 11, 3) := by decide +kernel
theorem dX2_init_12 : decode cX2_init 12 = .ok (.putfield 12, 3) := by decide +kernel
theorem dX2_init_15 : decode cX2_init 15 = .ok (.aload_n 0, 1) := by decide +kernel
theorem dX2_init_16 : decode cX2_init 16 = .ok (.bipush 8, 2) := by decide +kernel
theorem dX2_init_18 : decode cX2_init 18 = .ok (.newarray .int, 2) := by decide +kernel
theorem dX2_init_20 : decode cX2_init 20 = .ok (.putfield 18, 3) := by decide +kernel
theorem dX2_init_23 : decode cX2_init 23 = .ok (.return_, 1) := by decide +kernel
theorem dX2_spotFor_0 : decode cX2_spotFor 0 = .ok (.aload_n 2, 1) := by decide +kernel
theorem dX2_spotFor_1 : decode cX2_spotFor 1 = .ok (.invokevirtual 22, 3) := by decide +kernel
theorem dX2_spotFor_4 : decode cX2_spotFor 4 = .ok (.istore 4, 2) := by decide +kernel
theorem dX2_spotFor_6 : decode cX2_spotFor 6 = .ok (.iconst 0, 1) := by decide +kernel
theorem dX2_spotFor_7 : decode cX2_spotFor 7 = .ok (.istore 5, 2) := by decide +kernel
theorem dX2_spotFor_9 : decode cX2_spotFor 9 = .ok (.iload 5, 2) := by decide +kernel
theorem dX2_spotFor_11 : decode cX2_spotFor 11 = .ok (.iload 4, 2) := by decide +kernel
theorem dX2_spotFor_13 : decode cX2_spotFor 13 = .ok (.if_icmp .gt 61, 3) := by decide +kernel
theorem dX2_spotFor_16 : decode cX2_spotFor 16 = .ok (.iload 5, 2) := by decide +kernel
theorem dX2_spotFor_18 : decode cX2_spotFor 18 = .ok (.bipush 8, 2) := by decide +kernel
theorem dX2_spotFor_20 : decode cX2_spotFor 20 = .ok (.if_icmp .ge 54, 3) := by decide +kernel
theorem dX2_spotFor_23 : decode cX2_spotFor 23 = .ok (.aload_n 0, 1) := by decide +kernel
theorem dX2_spotFor_24 : decode cX2_spotFor 24 = .ok (.getfield 12, 3) := by decide +kernel
theorem dX2_spotFor_27 : decode cX2_spotFor 27 = .ok (.aload_n 1, 1) := by decide +kernel
theorem dX2_spotFor_28 : decode cX2_spotFor 28 = .ok (.aload_n 2, 1) := by decide +kernel
theorem dX2_spotFor_29 : decode cX2_spotFor 29 = .ok (.iload 5, 2) := by decide +kernel
theorem dX2_spotFor_31 : decode cX2_spotFor 31 = .ok (.invokevirtual 28, 3) := by decide +kernel
theorem dX2_spotFor_34 : decode cX2_spotFor 34 = .ok (.aload_n 0, 1) := by decide +kernel
theorem dX2_spotFor_35 : decode cX2_spotFor 35 = .ok (.getfield 12, 3) := by decide +kernel
theorem dX2_spotFor_38 : decode cX2_spotFor 38 = .ok (.aload_n 1, 1) := by decide +kernel
theorem dX2_spotFor_39 : decode cX2_spotFor 39 = .ok (.getfield 32, 3) := by decide +kernel
theorem dX2_spotFor_42 : decode cX2_spotFor 42 = .ok (.iload_n 3, 1) := by decide +kernel
theorem dX2_spotFor_43 : decode cX2_spotFor 43 = .ok (.aaload, 1) := by decide +kernel
theorem dX2_spotFor_44 : decode cX2_spotFor 44 = .ok (.aload_n 2, 1) := by decide +kernel
theorem dX2_spotFor_45 : decode cX2_spotFor 45 = .ok (.getfield 38, 3) := by decide +kernel
end
section
/-- the words that stay true whatever else is resolved -/
def xwl : List Cond := lw_tbl.filter goodWord
theorem xin0 {w : Cond} (h : w ∈ k2_sels lw_privs) (g : goodWord w = true) : w ∈ xwl := List.mem_filter.mpr ⟨List.mem_append_left _ h, g⟩
theorem xin1 {w : Cond} (h : w ∈ tables_1_1) (g : goodWord w = true) : w ∈ xwl := List.mem_filter.mpr ⟨List.mem_append_right _ (List.mem_append_left _ h), g⟩
theorem xin2 {w : Cond} (h : w ∈ tables_1_2) (g : goodWord w = true) : w ∈ xwl := List.mem_filter.mpr ⟨List.mem_append_right _ (List.mem_append_right _ (List.mem_append_left _ h)), g⟩
theorem xin3 {w : Cond} (h : w ∈ tables_1_3) (g : goodWord w = true) : w ∈ xwl := List.mem_filter.mpr ⟨List.mem_append_right _ (List.mem_append_right _ (List.mem_append_right _ (List.mem_append_left _ h))), g⟩
theorem xin4 {w : Cond} (h : w ∈ tables_1_4) (g : goodWord w = true) : w ∈ xwl := List.mem_filter.mpr ⟨List.mem_append_right _ (List.mem_append_right _ (List.mem_append_right _ (List.mem_append_right _ (List.mem_append_left _ h)))), g⟩
theorem xin5 {w : Cond} (h : w ∈ tables_1_5) (g : goodWord w = true) : w ∈ xwl := List.mem_filter.mpr ⟨List.mem_append_right _ (List.mem_append_right _ (List.mem_append_right _ (List.mem_append_right _ (List.mem_append_right _ (List.mem_append_left _ h))))), g⟩
theorem xin6 {w : Cond} (h : w ∈ tables_1_6) (g : goodWord w = true) : w ∈ xwl := List.mem_filter.mpr ⟨List.mem_append_right _ (List.mem_append_right _ (List.mem_append_right _ (List.mem_append_right _ (List.mem_append_right _ (List.mem_append_right _ (List.mem_append_left _ h)))))), g⟩
theorem xin7 {w : Cond} (h : w ∈ tables_1_7) (g : goodWord w = true) : w ∈ xwl := List.mem_filter.mpr ⟨List.mem_append_right _ (List.mem_append_right _ (List.mem_append_right _ (List.mem_append_right _ (List.mem_append_right _ (List.mem_append_right _ (List.mem_append_right _ (h))))))), g⟩
theorem xw0 : Cond.selects RX10 yX10_refuse yX10_refuse ∈ xwl := xin0 (List.mem_of_getElem? (i := 0) (by decide +kernel)) rfl
theorem xw1 : Cond.selects RX10 yX10_tell yX10_tell ∈ xwl := xin0 (List.mem_of_getElem? (i := 1) (by decide +kernel)) rfl
theorem xw2 : Cond.selects RX3 yX3_advance yX3_advance ∈ xwl := xin0 (List.mem_of_getElem? (i := 2) (by decide +kernel)) rfl
theorem xw3 : Cond.selects RX3 yX3_readPage yX3_readPage ∈ xwl := xin0 (List.mem_of_getElem? (i := 3) (by decide +kernel)) rfl
theorem xw4 : Cond.selects RX3 yX3_isAtWord yX3_isAtWord ∈ xwl := xin0 (List.mem_of_getElem? (i := 4) (by decide +kernel)) rfl
theorem xw5 : Cond.selects RX3 yX3_takeNumber yX3_takeNumber ∈ xwl := xin0 (List.mem_of_getElem? (i := 5) (by decide +kernel)) rfl
theorem xw6 : Cond.selects RX3 yX3_takeStop yX3_takeStop ∈ xwl := xin0 (List.mem_of_getElem? (i := 6) (by decide +kernel)) rfl
theorem xw7 : Cond.selects RX3 yX3_readStatement yX3_readStatement ∈ xwl := xin0 (List.mem_of_getElem? (i := 7) (by decide +kernel)) rfl
theorem xw8 : Cond.selects RX3 yX3_readBleed yX3_readBleed ∈ xwl := xin0 (List.mem_of_getElem? (i := 8) (by decide +kernel)) rfl
theorem xw9 : Cond.selects RX3 yX3_kindAtHand yX3_kindAtHand ∈ xwl := xin0 (List.mem_of_getElem? (i := 9) (by decide +kernel)) rfl
theorem xw10 : Cond.selects RX3 yX3_readSides yX3_readSides ∈ xwl := xin0 (List.mem_of_getElem? (i := 10) (by decide +kernel)) rfl
theorem xw11 : Cond.selects RX3 yX3_readEmpty yX3_readEmpty ∈ xwl := xin0 (List.mem_of_getElem? (i := 11) (by decide +kernel)) rfl
theorem xw12 : Cond.selects RX10 yX10_hasNoSheet yX10_hasNoSheet ∈ xwl := xin0 (List.mem_of_getElem? (i := 12) (by decide +kernel)) rfl
theorem xw13 : Cond.selects RX6 yX6_addWord yX6_addWord ∈ xwl := xin0 (List.mem_of_getElem? (i := 13) (by decide +kernel)) rfl
theorem xw14 : Cond.selects RX6 yX6_addSign yX6_addSign ∈ xwl := xin0 (List.mem_of_getElem? (i := 14) (by decide +kernel)) rfl
theorem xw15 : Cond.selects RX6 yX6_addNumber yX6_addNumber ∈ xwl := xin0 (List.mem_of_getElem? (i := 15) (by decide +kernel)) rfl
theorem xw16 : Cond.selects RX6 yX6_writeFrame yX6_writeFrame ∈ xwl := xin0 (List.mem_of_getElem? (i := 16) (by decide +kernel)) rfl
theorem xw17 : Cond.selects RX4 yX4_cover yX4_cover ∈ xwl := xin0 (List.mem_of_getElem? (i := 17) (by decide +kernel)) rfl
theorem xw18 : Cond.selects RX4 yX4_findFree yX4_findFree ∈ xwl := xin0 (List.mem_of_getElem? (i := 18) (by decide +kernel)) rfl
theorem xw19 : Cond.selects RX4 yX4_addRuns yX4_addRuns ∈ xwl := xin0 (List.mem_of_getElem? (i := 19) (by decide +kernel)) rfl
theorem xw20 : Cond.selects RX4 yX4_insert yX4_insert ∈ xwl := xin0 (List.mem_of_getElem? (i := 20) (by decide +kernel)) rfl
theorem xw21 : Cond.selects RX2 yX2_fillQueue yX2_fillQueue ∈ xwl := xin0 (List.mem_of_getElem? (i := 21) (by decide +kernel)) rfl
theorem xw22 : Cond.selects RX10 yX10_isPage yX10_isPage ∈ xwl := xin0 (List.mem_of_getElem? (i := 22) (by decide +kernel)) rfl
theorem xw23 : Cond.selects RX10 yX10_takesPlace yX10_takesPlace ∈ xwl := xin0 (List.mem_of_getElem? (i := 23) (by decide +kernel)) rfl
theorem xw24 : Cond.selects RX10 yX10_pointSeen yX10_pointSeen ∈ xwl := xin0 (List.mem_of_getElem? (i := 24) (by decide +kernel)) rfl
theorem xw25 : Cond.selects RX10 yX10_shortcoming yX10_shortcoming ∈ xwl := xin0 (List.mem_of_getElem? (i := 25) (by decide +kernel)) rfl
theorem xw26 : Cond.selects RX10 yX10_doLot yX10_doLot ∈ xwl := xin0 (List.mem_of_getElem? (i := 26) (by decide +kernel)) rfl
theorem xw27 : Cond.selects RX10 yX10_placesTakenOnAllPages yX10_placesTakenOnAllPages ∈ xwl := xin0 (List.mem_of_getElem? (i := 27) (by decide +kernel)) rfl
theorem xw28 : Cond.selects RX10 yX10_freeOnAllPages yX10_freeOnAllPages ∈ xwl := xin0 (List.mem_of_getElem? (i := 28) (by decide +kernel)) rfl
theorem xw29 : Cond.selects RX10 yX10_rowsThere yX10_rowsThere ∈ xwl := xin0 (List.mem_of_getElem? (i := 29) (by decide +kernel)) rfl
theorem xw30 : Cond.selects RX10 yX10_textsThere yX10_textsThere ∈ xwl := xin0 (List.mem_of_getElem? (i := 30) (by decide +kernel)) rfl
theorem xw31 : Cond.selects RX10 yX10_sheetsKept yX10_sheetsKept ∈ xwl := xin0 (List.mem_of_getElem? (i := 31) (by decide +kernel)) rfl
theorem xw32 : Cond.selects RX10 yX10_withFrame yX10_withFrame ∈ xwl := xin0 (List.mem_of_getElem? (i := 32) (by decide +kernel)) rfl
theorem xw33 : Cond.selects RX11 yX11_found yX11_found ∈ xwl := xin0 (List.mem_of_getElem? (i := 33) (by decide +kernel)) rfl
theorem xw34 : Cond.selects RX11 yX11_rowAt yX11_rowAt ∈ xwl := xin0 (List.mem_of_getElem? (i := 34) (by decide +kernel)) rfl
theorem xw35 : Cond.selects RX11 yX11_tells yX11_tells ∈ xwl := xin0 (List.mem_of_getElem? (i := 35) (by decide +kernel)) rfl
theorem xw36 : Cond.selects RX11 yX11_faultOf yX11_faultOf ∈ xwl := xin0 (List.mem_of_getElem? (i := 36) (by decide +kernel)) rfl
theorem xw37 : Cond.selects RX11 yX11_blanks yX11_blanks ∈ xwl := xin0 (List.mem_of_getElem? (i := 37) (by decide +kernel)) rfl
theorem xw38 : Cond.selects RX11 yX11_byteAt yX11_byteAt ∈ xwl := xin0 (List.mem_of_getElem? (i := 38) (by decide +kernel)) rfl
theorem xw39 : Cond.selects RX11 yX11_readsOne yX11_readsOne ∈ xwl := xin0 (List.mem_of_getElem? (i := 39) (by decide +kernel)) rfl
theorem xw40 : Cond.selects RX11 yX11_next yX11_next ∈ xwl := xin0 (List.mem_of_getElem? (i := 40) (by decide +kernel)) rfl
theorem xw41 : Cond.selects RX11 yX11_isLetter yX11_isLetter ∈ xwl := xin0 (List.mem_of_getElem? (i := 41) (by decide +kernel)) rfl
theorem xw42 : Cond.selects RX11 yX11_isFigure yX11_isFigure ∈ xwl := xin0 (List.mem_of_getElem? (i := 42) (by decide +kernel)) rfl
theorem xw43 : Cond.selects RX11 yX11_word yX11_word ∈ xwl := xin0 (List.mem_of_getElem? (i := 43) (by decide +kernel)) rfl
theorem xw44 : Cond.selects RX11 yX11_fails yX11_fails ∈ xwl := xin0 (List.mem_of_getElem? (i := 44) (by decide +kernel)) rfl
theorem xw45 : Cond.selects RX11 yX11_readsPage yX11_readsPage ∈ xwl := xin0 (List.mem_of_getElem? (i := 45) (by decide +kernel)) rfl
theorem xw46 : Cond.selects RX11 yX11_number yX11_number ∈ xwl := xin0 (List.mem_of_getElem? (i := 46) (by decide +kernel)) rfl
theorem xw47 : Cond.selects RX11 yX11_ends yX11_ends ∈ xwl := xin0 (List.mem_of_getElem? (i := 47) (by decide +kernel)) rfl
theorem xw48 : Cond.selects RX11 yX11_readsBleed yX11_readsBleed ∈ xwl := xin0 (List.mem_of_getElem? (i := 48) (by decide +kernel)) rfl
theorem xw49 : Cond.selects RX11 yX11_readsFrame yX11_readsFrame ∈ xwl := xin0 (List.mem_of_getElem? (i := 49) (by decide +kernel)) rfl
theorem xw50 : Cond.selects RX11 yX11_liftsAll yX11_liftsAll ∈ xwl := xin0 (List.mem_of_getElem? (i := 50) (by decide +kernel)) rfl
theorem xw51 : Cond.selects RX11 yX11_writesWord yX11_writesWord ∈ xwl := xin0 (List.mem_of_getElem? (i := 51) (by decide +kernel)) rfl
theorem xw52 : Cond.selects RX11 yX11_writes yX11_writes ∈ xwl := xin0 (List.mem_of_getElem? (i := 52) (by decide +kernel)) rfl
theorem xw53 : Cond.selects RX11 yX11_writesNumber yX11_writesNumber ∈ xwl := xin0 (List.mem_of_getElem? (i := 53) (by decide +kernel)) rfl
theorem xw54 : Cond.selects RX11 yX11_kindOf yX11_kindOf ∈ xwl := xin0 (List.mem_of_getElem? (i := 54) (by decide +kernel)) rfl
theorem xw55 : Cond.selects RX11 yX11_isFrame yX11_isFrame ∈ xwl := xin0 (List.mem_of_getElem? (i := 55) (by decide +kernel)) rfl
theorem xw56 : Cond.selects RX11 yX11_frameTells yX11_frameTells ∈ xwl := xin0 (List.mem_of_getElem? (i := 56) (by decide +kernel)) rfl
theorem xw57 : Cond.selects RX11 yX11_across yX11_across ∈ xwl := xin0 (List.mem_of_getElem? (i := 57) (by decide +kernel)) rfl
theorem xw58 : Cond.selects RX11 yX11_of yX11_of ∈ xwl := xin0 (List.mem_of_getElem? (i := 58) (by decide +kernel)) rfl
theorem xw59 : Cond.selects RX11 yX11_down yX11_down ∈ xwl := xin0 (List.mem_of_getElem? (i := 59) (by decide +kernel)) rfl
theorem xw60 : Cond.selects RX11 yX11_needX yX11_needX ∈ xwl := xin0 (List.mem_of_getElem? (i := 60) (by decide +kernel)) rfl
theorem xw61 : Cond.selects RX11 yX11_edge yX11_edge ∈ xwl := xin0 (List.mem_of_getElem? (i := 61) (by decide +kernel)) rfl
theorem xw62 : Cond.selects RX11 yX11_needY yX11_needY ∈ xwl := xin0 (List.mem_of_getElem? (i := 62) (by decide +kernel)) rfl
theorem xw63 : Cond.selects RX11 yX11_isSet yX11_isSet ∈ xwl := xin0 (List.mem_of_getElem? (i := 63) (by decide +kernel)) rfl
theorem xw64 : Cond.selects RX11 yX11_findsPage yX11_findsPage ∈ xwl := xin0 (List.mem_of_getElem? (i := 64) (by decide +kernel)) rfl
theorem xw65 : Cond.selects RX11 yX11_pageMany yX11_pageMany ∈ xwl := xin0 (List.mem_of_getElem? (i := 65) (by decide +kernel)) rfl
theorem xw66 : Cond.selects RX11 yX11_layFree yX11_layFree ∈ xwl := xin0 (List.mem_of_getElem? (i := 66) (by decide +kernel)) rfl
theorem xw67 : Cond.selects RX11 yX11_layGrid yX11_layGrid ∈ xwl := xin0 (List.mem_of_getElem? (i := 67) (by decide +kernel)) rfl
theorem xw68 : Cond.selects RX11 yX11_isFree yX11_isFree ∈ xwl := xin0 (List.mem_of_getElem? (i := 68) (by decide +kernel)) rfl
theorem xw69 : Cond.selects RX11 yX11_isGreatest yX11_isGreatest ∈ xwl := xin0 (List.mem_of_getElem? (i := 69) (by decide +kernel)) rfl
theorem xw70 : Cond.selects RX11 yX11_findsRoom yX11_findsRoom ∈ xwl := xin0 (List.mem_of_getElem? (i := 70) (by decide +kernel)) rfl
theorem xw71 : Cond.selects RX11 yX11_turns yX11_turns ∈ xwl := xin0 (List.mem_of_getElem? (i := 71) (by decide +kernel)) rfl
theorem xw72 : Cond.selects RX11 yX11_first yX11_first ∈ xwl := xin0 (List.mem_of_getElem? (i := 72) (by decide +kernel)) rfl
theorem xw73 : Cond.selects RX11 yX11_second yX11_second ∈ xwl := xin0 (List.mem_of_getElem? (i := 73) (by decide +kernel)) rfl
theorem xw74 : Cond.selects RX11 yX11_remember yX11_remember ∈ xwl := xin0 (List.mem_of_getElem? (i := 74) (by decide +kernel)) rfl
theorem xw75 : Cond.selects RX11 yX11_sets yX11_sets ∈ xwl := xin0 (List.mem_of_getElem? (i := 75) (by decide +kernel)) rfl
theorem xw76 : Cond.selects RX11 yX11_lifts yX11_lifts ∈ xwl := xin0 (List.mem_of_getElem? (i := 76) (by decide +kernel)) rfl
theorem xw77 : Cond.selects RX11 yX11_setsAll yX11_setsAll ∈ xwl := xin0 (List.mem_of_getElem? (i := 77) (by decide +kernel)) rfl
theorem xw78 : Cond.selects RX11 yX11_weight yX11_weight ∈ xwl := xin0 (List.mem_of_getElem? (i := 78) (by decide +kernel)) rfl
theorem xw79 : Cond.selects RX11 yX11_isPage yX11_isPage ∈ xwl := xin0 (List.mem_of_getElem? (i := 79) (by decide +kernel)) rfl
theorem xw80 : Cond.selects RX11 yX11_leftOf yX11_leftOf ∈ xwl := xin0 (List.mem_of_getElem? (i := 80) (by decide +kernel)) rfl
theorem xw81 : Cond.selects RX11 yX11_aboveOf yX11_aboveOf ∈ xwl := xin0 (List.mem_of_getElem? (i := 81) (by decide +kernel)) rfl
theorem xw82 : Cond.selects RX11 yX11_takenOf yX11_takenOf ∈ xwl := xin0 (List.mem_of_getElem? (i := 82) (by decide +kernel)) rfl
theorem xw83 : Cond.selects RX11 yX11_tries yX11_tries ∈ xwl := xin0 (List.mem_of_getElem? (i := 83) (by decide +kernel)) rfl
theorem xw84 : Cond.selects RX11 yX11_setMany yX11_setMany ∈ xwl := xin0 (List.mem_of_getElem? (i := 84) (by decide +kernel)) rfl
theorem xw85 : Cond.selects RX11 yX11_counted yX11_counted ∈ xwl := xin0 (List.mem_of_getElem? (i := 85) (by decide +kernel)) rfl
theorem xw86 : Cond.selects RX11 yX11_allTaken yX11_allTaken ∈ xwl := xin0 (List.mem_of_getElem? (i := 86) (by decide +kernel)) rfl
theorem xw87 : Cond.selects RX11 yX11_allFree yX11_allFree ∈ xwl := xin0 (List.mem_of_getElem? (i := 87) (by decide +kernel)) rfl
theorem xw88 : Cond.selects RX11 yX11_adds yX11_adds ∈ xwl := xin0 (List.mem_of_getElem? (i := 88) (by decide +kernel)) rfl
theorem xw89 : Cond.initialized RL ∈ xwl := xin1 (List.mem_of_getElem? (i := 0) (by decide +kernel)) rfl
theorem xw90 : Cond.initialized RX10 ∈ xwl := xin1 (List.mem_of_getElem? (i := 1) (by decide +kernel)) rfl
theorem xw91 : Cond.initialized RX8 ∈ xwl := xin1 (List.mem_of_getElem? (i := 2) (by decide +kernel)) rfl
theorem xw92 : Cond.initialized RX1 ∈ xwl := xin1 (List.mem_of_getElem? (i := 3) (by decide +kernel)) rfl
theorem xw93 : Cond.initialized RX3 ∈ xwl := xin1 (List.mem_of_getElem? (i := 4) (by decide +kernel)) rfl
theorem xw94 : Cond.initialized RX7 ∈ xwl := xin1 (List.mem_of_getElem? (i := 5) (by decide +kernel)) rfl
theorem xw95 : Cond.initialized RX0 ∈ xwl := xin1 (List.mem_of_getElem? (i := 6) (by decide +kernel)) rfl
theorem xw96 : Cond.initialized RX6 ∈ xwl := xin1 (List.mem_of_getElem? (i := 7) (by decide +kernel)) rfl
theorem xw97 : Cond.initialized RX2 ∈ xwl := xin1 (List.mem_of_getElem? (i := 8) (by decide +kernel)) rfl
theorem xw98 : Cond.initialized RX4 ∈ xwl := xin1 (List.mem_of_getElem? (i := 9) (by decide +kernel)) rfl
theorem xw99 : Cond.initialized RX5 ∈ xwl := xin1 (List.mem_of_getElem? (i := 10) (by decide +kernel)) rfl
theorem xw100 : Cond.initialized RX9 ∈ xwl := xin1 (List.mem_of_getElem? (i := 11) (by decide +kernel)) rfl
theorem xw101 : Cond.initialized RX11 ∈ xwl := xin1 (List.mem_of_getElem? (i := 12) (by decide +kernel)) rfl
theorem xw102 : Cond.initialized "java/lang/Math" ∈ xwl := xin1 (List.mem_of_getElem? (i := 13) (by decide +kernel)) rfl
theorem xw103 : Cond.initialized "java/lang/System" ∈ xwl := xin1 (List.mem_of_getElem? (i := 14) (by decide +kernel)) rfl
theorem xw104 : Cond.initialized "java/lang/String" ∈ xwl := xin1 (List.mem_of_getElem? (i := 15) (by decide +kernel)) rfl
theorem xw105 : Cond.initialized "java/lang/StringLatin1" ∈ xwl := xin1 (List.mem_of_getElem? (i := 16) (by decide +kernel)) rfl
theorem xw106 : Cond.initialized "jdk/internal/util/Preconditions" ∈ xwl := xin1 (List.mem_of_getElem? (i := 17) (by decide +kernel)) rfl
theorem xw107 : Cond.initialized "java/lang/StringUTF16" ∈ xwl := xin1 (List.mem_of_getElem? (i := 18) (by decide +kernel)) rfl
theorem xw108 : Cond.classLink RL 7 RX10 ∈ xwl := xin1 (List.mem_of_getElem? (i := 19) (by decide +kernel)) rfl
theorem xw109 : Cond.instantiable RX10 13 ∈ xwl := xin1 (List.mem_of_getElem? (i := 20) (by decide +kernel)) rfl
theorem xw110 : Cond.methodLink RL 9 yX10_init ∈ xwl := xin1 (List.mem_of_getElem? (i := 21) (by decide +kernel)) rfl
theorem xw111 : Cond.instanceMethod yX10_init ∈ xwl := xin1 (List.mem_of_getElem? (i := 22) (by decide +kernel)) rfl
theorem xw112 : Cond.code yX10_init cX10_init 2 none ∈ xwl := xin1 (List.mem_of_getElem? (i := 23) rfl) rfl
theorem xw113 : Cond.methodLink RX10 1 objectInit ∈ xwl := xin1 (List.mem_of_getElem? (i := 24) (by decide +kernel)) rfl
theorem xw114 : Cond.instanceMethod objectInit ∈ xwl := xin1 (List.mem_of_getElem? (i := 25) (by decide +kernel)) rfl
theorem xw115 : Cond.code objectInit object_method_1_code 1 none ∈ xwl := xin1 (List.mem_of_getElem? (i := 26) rfl) rfl
theorem xw116 : Cond.classLink RX10 9 RX5 ∈ xwl := xin1 (List.mem_of_getElem? (i := 27) (by decide +kernel)) rfl
theorem xw118 : Cond.classLink RX10 15 RX9 ∈ xwl := xin1 (List.mem_of_getElem? (i := 29) (by decide +kernel)) rfl
theorem xw120 : Cond.classLink RX10 21 RX8 ∈ xwl := xin1 (List.mem_of_getElem? (i := 31) (by decide +kernel)) rfl
theorem xw122 : Cond.instantiable RX8 3 ∈ xwl := xin1 (List.mem_of_getElem? (i := 33) (by decide +kernel)) rfl
theorem xw124 : Cond.instanceMethod yX8_init ∈ xwl := xin1 (List.mem_of_getElem? (i := 35) (by decide +kernel)) rfl
theorem xw125 : Cond.code yX8_init cX8_init 1 none ∈ xwl := xin1 (List.mem_of_getElem? (i := 36) rfl) rfl
theorem xw126 : Cond.methodLink RX8 3 objectInit ∈ xwl := xin1 (List.mem_of_getElem? (i := 37) (by decide +kernel)) rfl
theorem xw127 : Cond.classLink RX8 9 RX1 ∈ xwl := xin1 (List.mem_of_getElem? (i := 38) (by decide +kernel)) rfl
theorem xw128 : Cond.instantiable RX1 2 ∈ xwl := xin1 (List.mem_of_getElem? (i := 39) (by decide +kernel)) rfl
theorem xw129 : Cond.methodLink RX8 11 yX1_init ∈ xwl := xin1 (List.mem_of_getElem? (i := 40) (by decide +kernel)) rfl
theorem xw130 : Cond.instanceMethod yX1_init ∈ xwl := xin1 (List.mem_of_getElem? (i := 41) (by decide +kernel)) rfl
theorem xw131 : Cond.code yX1_init cX1_init 2 none ∈ xwl := xin1 (List.mem_of_getElem? (i := 42) rfl) rfl
theorem xw132 : Cond.methodLink RX1 3 objectInit ∈ xwl := xin1 (List.mem_of_getElem? (i := 43) (by decide +kernel)) rfl
theorem xw133 : Cond.fieldLink RX1 9 "FrameSheets$Layout" "spots" "[I" ∈ xwl := xin1 (List.mem_of_getElem? (i := 44) (by decide +kernel)) rfl
theorem xw134 : Cond.fieldLink RX2 60 "FrameSheets$Layout" "spots" "[I" ∈ xwl := xin1 (List.mem_of_getElem? (i := 45) (by decide +kernel)) rfl
theorem xw135 : Cond.fieldLink RX8 36 "FrameSheets$Layout" "spots" "[I" ∈ xwl := xin1 (List.mem_of_getElem? (i := 46) (by decide +kernel)) rfl
theorem xw136 : Cond.fieldLink RX10 204 "FrameSheets$Layout" "spots" "[I" ∈ xwl := xin1 (List.mem_of_getElem? (i := 47) (by decide +kernel)) rfl
theorem xw137 : Cond.fieldLink RX1 15 "FrameSheets$Layout" "rule" "I" ∈ xwl := xin1 (List.mem_of_getElem? (i := 48) (by decide +kernel)) rfl
theorem xw138 : Cond.fieldLink RX2 38 "FrameSheets$Layout" "rule" "I" ∈ xwl := xin1 (List.mem_of_getElem? (i := 49) (by decide +kernel)) rfl
theorem xw139 : Cond.fieldLink RX8 29 "FrameSheets$Layout" "rule" "I" ∈ xwl := xin1 (List.mem_of_getElem? (i := 50) (by decide +kernel)) rfl
theorem xw140 : Cond.fieldLink RX10 217 "FrameSheets$Layout" "rule" "I" ∈ xwl := xin1 (List.mem_of_getElem? (i := 51) (by decide +kernel)) rfl
theorem xw141 : Cond.laysFinal RX1 "FrameSheets$Layout" "spots" "[I" ∈ xwl := xin1 (List.mem_of_getElem? (i := 52) (by decide +kernel)) rfl
theorem xw143 : Cond.lays RX1 "FrameSheets$Layout" "rule" "I" ∈ xwl := xin1 (List.mem_of_getElem? (i := 54) (by decide +kernel)) rfl
theorem xw146 : Cond.arrayClass .boolean ∈ xwl := xin1 (List.mem_of_getElem? (i := 57) (by decide +kernel)) rfl
theorem xw147 : Cond.arrayClass .int ∈ xwl := xin1 (List.mem_of_getElem? (i := 58) (by decide +kernel)) rfl
theorem xw148 : Cond.fieldLink RX8 12 "FrameSheets$Story" "now" "LFrameSheets$Layout;" ∈ xwl := xin1 (List.mem_of_getElem? (i := 59) (by decide +kernel)) rfl
theorem xw149 : Cond.fieldLink RX10 163 "FrameSheets$Story" "now" "LFrameSheets$Layout;" ∈ xwl := xin1 (List.mem_of_getElem? (i := 60) (by decide +kernel)) rfl
theorem xw150 : Cond.fieldLink RX8 18 "FrameSheets$Story" "past" "[I" ∈ xwl := xin1 (List.mem_of_getElem? (i := 61) (by decide +kernel)) rfl
theorem xw151 : Cond.fieldLink RX8 22 "FrameSheets$Story" "deeds" "I" ∈ xwl := xin1 (List.mem_of_getElem? (i := 62) (by decide +kernel)) rfl
theorem xw152 : Cond.fieldLink RX10 220 "FrameSheets$Story" "deeds" "I" ∈ xwl := xin1 (List.mem_of_getElem? (i := 63) (by decide +kernel)) rfl
theorem xw153 : Cond.laysFinal RX8 "FrameSheets$Story" "now" "LFrameSheets$Layout;" ∈ xwl := xin1 (List.mem_of_getElem? (i := 64) (by decide +kernel)) rfl
theorem xw155 : Cond.laysFinal RX8 "FrameSheets$Story" "past" "[I" ∈ xwl := xin1 (List.mem_of_getElem? (i := 66) (by decide +kernel)) rfl
theorem xw157 : Cond.lays RX8 "FrameSheets$Story" "deeds" "I" ∈ xwl := xin1 (List.mem_of_getElem? (i := 68) (by decide +kernel)) rfl
theorem xw160 : Cond.classLink RX10 36 RX3 ∈ xwl := xin1 (List.mem_of_getElem? (i := 71) (by decide +kernel)) rfl
theorem xw161 : Cond.instantiable RX3 8 ∈ xwl := xin1 (List.mem_of_getElem? (i := 72) (by decide +kernel)) rfl
theorem xw163 : Cond.instanceMethod yX3_init ∈ xwl := xin1 (List.mem_of_getElem? (i := 74) (by decide +kernel)) rfl
theorem xw164 : Cond.code yX3_init cX3_init 1 none ∈ xwl := xin1 (List.mem_of_getElem? (i := 75) rfl) rfl
theorem xw165 : Cond.methodLink RX3 3 objectInit ∈ xwl := xin1 (List.mem_of_getElem? (i := 76) (by decide +kernel)) rfl
theorem xw166 : Cond.classLink RX3 9 RX7 ∈ xwl := xin1 (List.mem_of_getElem? (i := 77) (by decide +kernel)) rfl
theorem xw167 : Cond.instantiable RX7 5 ∈ xwl := xin1 (List.mem_of_getElem? (i := 78) (by decide +kernel)) rfl
theorem xw168 : Cond.methodLink RX3 11 yX7_init ∈ xwl := xin1 (List.mem_of_getElem? (i := 79) (by decide +kernel)) rfl
theorem xw169 : Cond.instanceMethod yX7_init ∈ xwl := xin1 (List.mem_of_getElem? (i := 80) (by decide +kernel)) rfl
theorem xw170 : Cond.code yX7_init cX7_init 2 none ∈ xwl := xin1 (List.mem_of_getElem? (i := 81) rfl) rfl
theorem xw171 : Cond.methodLink RX7 3 objectInit ∈ xwl := xin1 (List.mem_of_getElem? (i := 82) (by decide +kernel)) rfl
theorem xw172 : Cond.classLink RX7 9 RX0 ∈ xwl := xin1 (List.mem_of_getElem? (i := 83) (by decide +kernel)) rfl
theorem xw174 : Cond.instantiable RX0 12 ∈ xwl := xin1 (List.mem_of_getElem? (i := 85) (by decide +kernel)) rfl
theorem xw176 : Cond.instanceMethod yX0_init ∈ xwl := xin1 (List.mem_of_getElem? (i := 87) (by decide +kernel)) rfl
theorem xw177 : Cond.code yX0_init cX0_init 1 none ∈ xwl := xin1 (List.mem_of_getElem? (i := 88) rfl) rfl
theorem xw178 : Cond.methodLink RX0 3 objectInit ∈ xwl := xin1 (List.mem_of_getElem? (i := 89) (by decide +kernel)) rfl
theorem xw179 : Cond.fieldLink RX0 9 "FrameSheets$Frame" "kind" "I" ∈ xwl := xin1 (List.mem_of_getElem? (i := 90) (by decide +kernel)) rfl
theorem xw180 : Cond.fieldLink RX6 53 "FrameSheets$Frame" "kind" "I" ∈ xwl := xin1 (List.mem_of_getElem? (i := 91) (by decide +kernel)) rfl
theorem xw181 : Cond.fieldLink RX3 99 "FrameSheets$Frame" "kind" "I" ∈ xwl := xin1 (List.mem_of_getElem? (i := 92) (by decide +kernel)) rfl
theorem xw182 : Cond.fieldLink RX0 18 "FrameSheets$Frame" "w" "I" ∈ xwl := xin1 (List.mem_of_getElem? (i := 93) (by decide +kernel)) rfl
theorem xw183 : Cond.fieldLink RX6 62 "FrameSheets$Frame" "w" "I" ∈ xwl := xin1 (List.mem_of_getElem? (i := 94) (by decide +kernel)) rfl
theorem xw184 : Cond.fieldLink RX3 111 "FrameSheets$Frame" "w" "I" ∈ xwl := xin1 (List.mem_of_getElem? (i := 95) (by decide +kernel)) rfl
theorem xw185 : Cond.fieldLink RX10 257 "FrameSheets$Frame" "w" "I" ∈ xwl := xin1 (List.mem_of_getElem? (i := 96) (by decide +kernel)) rfl
theorem xw186 : Cond.fieldLink RX0 30 "FrameSheets$Frame" "h" "I" ∈ xwl := xin1 (List.mem_of_getElem? (i := 97) (by decide +kernel)) rfl
theorem xw187 : Cond.fieldLink RX6 65 "FrameSheets$Frame" "h" "I" ∈ xwl := xin1 (List.mem_of_getElem? (i := 98) (by decide +kernel)) rfl
theorem xw188 : Cond.fieldLink RX3 114 "FrameSheets$Frame" "h" "I" ∈ xwl := xin1 (List.mem_of_getElem? (i := 99) (by decide +kernel)) rfl
theorem xw189 : Cond.fieldLink RX10 260 "FrameSheets$Frame" "h" "I" ∈ xwl := xin1 (List.mem_of_getElem? (i := 100) (by decide +kernel)) rfl
theorem xw190 : Cond.fieldLink RX0 21 "FrameSheets$Frame" "left" "I" ∈ xwl := xin1 (List.mem_of_getElem? (i := 101) (by decide +kernel)) rfl
theorem xw191 : Cond.fieldLink RX6 68 "FrameSheets$Frame" "left" "I" ∈ xwl := xin1 (List.mem_of_getElem? (i := 102) (by decide +kernel)) rfl
theorem xw192 : Cond.fieldLink RX3 117 "FrameSheets$Frame" "left" "I" ∈ xwl := xin1 (List.mem_of_getElem? (i := 103) (by decide +kernel)) rfl
theorem xw193 : Cond.fieldLink RX0 33 "FrameSheets$Frame" "above" "I" ∈ xwl := xin1 (List.mem_of_getElem? (i := 104) (by decide +kernel)) rfl
theorem xw194 : Cond.fieldLink RX6 71 "FrameSheets$Frame" "above" "I" ∈ xwl := xin1 (List.mem_of_getElem? (i := 105) (by decide +kernel)) rfl
theorem xw195 : Cond.fieldLink RX3 120 "FrameSheets$Frame" "above" "I" ∈ xwl := xin1 (List.mem_of_getElem? (i := 106) (by decide +kernel)) rfl
theorem xw196 : Cond.fieldLink RX0 24 "FrameSheets$Frame" "right" "I" ∈ xwl := xin1 (List.mem_of_getElem? (i := 107) (by decide +kernel)) rfl
theorem xw197 : Cond.fieldLink RX6 74 "FrameSheets$Frame" "right" "I" ∈ xwl := xin1 (List.mem_of_getElem? (i := 108) (by decide +kernel)) rfl
theorem xw198 : Cond.fieldLink RX3 123 "FrameSheets$Frame" "right" "I" ∈ xwl := xin1 (List.mem_of_getElem? (i := 109) (by decide +kernel)) rfl
theorem xw199 : Cond.fieldLink RX0 36 "FrameSheets$Frame" "below" "I" ∈ xwl := xin1 (List.mem_of_getElem? (i := 110) (by decide +kernel)) rfl
theorem xw200 : Cond.fieldLink RX6 77 "FrameSheets$Frame" "below" "I" ∈ xwl := xin1 (List.mem_of_getElem? (i := 111) (by decide +kernel)) rfl
theorem xw201 : Cond.fieldLink RX3 126 "FrameSheets$Frame" "below" "I" ∈ xwl := xin1 (List.mem_of_getElem? (i := 112) (by decide +kernel)) rfl
theorem xw202 : Cond.fieldLink RX0 15 "FrameSheets$Frame" "edge" "I" ∈ xwl := xin1 (List.mem_of_getElem? (i := 113) (by decide +kernel)) rfl
theorem xw203 : Cond.fieldLink RX10 275 "FrameSheets$Frame" "edge" "I" ∈ xwl := xin1 (List.mem_of_getElem? (i := 114) (by decide +kernel)) rfl
theorem xw204 : Cond.fieldLink RX0 27 "FrameSheets$Frame" "across" "I" ∈ xwl := xin1 (List.mem_of_getElem? (i := 115) (by decide +kernel)) rfl
theorem xw205 : Cond.fieldLink RX10 176 "FrameSheets$Frame" "across" "I" ∈ xwl := xin1 (List.mem_of_getElem? (i := 116) (by decide +kernel)) rfl
theorem xw206 : Cond.fieldLink RX0 39 "FrameSheets$Frame" "down" "I" ∈ xwl := xin1 (List.mem_of_getElem? (i := 117) (by decide +kernel)) rfl
theorem xw207 : Cond.fieldLink RX10 179 "FrameSheets$Frame" "down" "I" ∈ xwl := xin1 (List.mem_of_getElem? (i := 118) (by decide +kernel)) rfl
theorem xw208 : Cond.fieldLink RX0 42 "FrameSheets$Frame" "firstColumn" "I" ∈ xwl := xin1 (List.mem_of_getElem? (i := 119) (by decide +kernel)) rfl
theorem xw209 : Cond.fieldLink RX10 263 "FrameSheets$Frame" "firstColumn" "I" ∈ xwl := xin1 (List.mem_of_getElem? (i := 120) (by decide +kernel)) rfl
theorem xw210 : Cond.fieldLink RX0 45 "FrameSheets$Frame" "firstRow" "I" ∈ xwl := xin1 (List.mem_of_getElem? (i := 121) (by decide +kernel)) rfl
theorem xw211 : Cond.fieldLink RX10 266 "FrameSheets$Frame" "firstRow" "I" ∈ xwl := xin1 (List.mem_of_getElem? (i := 122) (by decide +kernel)) rfl
theorem xw212 : Cond.lays RX0 "FrameSheets$Frame" "kind" "I" ∈ xwl := xin1 (List.mem_of_getElem? (i := 123) (by decide +kernel)) rfl
theorem xw214 : Cond.lays RX0 "FrameSheets$Frame" "w" "I" ∈ xwl := xin1 (List.mem_of_getElem? (i := 125) (by decide +kernel)) rfl
theorem xw216 : Cond.lays RX0 "FrameSheets$Frame" "h" "I" ∈ xwl := xin1 (List.mem_of_getElem? (i := 127) (by decide +kernel)) rfl
theorem xw218 : Cond.lays RX0 "FrameSheets$Frame" "left" "I" ∈ xwl := xin1 (List.mem_of_getElem? (i := 129) (by decide +kernel)) rfl
theorem xw220 : Cond.lays RX0 "FrameSheets$Frame" "above" "I" ∈ xwl := xin1 (List.mem_of_getElem? (i := 131) (by decide +kernel)) rfl
theorem xw222 : Cond.lays RX0 "FrameSheets$Frame" "right" "I" ∈ xwl := xin1 (List.mem_of_getElem? (i := 133) (by decide +kernel)) rfl
theorem xw224 : Cond.lays RX0 "FrameSheets$Frame" "below" "I" ∈ xwl := xin1 (List.mem_of_getElem? (i := 135) (by decide +kernel)) rfl
theorem xw226 : Cond.lays RX0 "FrameSheets$Frame" "edge" "I" ∈ xwl := xin1 (List.mem_of_getElem? (i := 137) (by decide +kernel)) rfl
theorem xw228 : Cond.lays RX0 "FrameSheets$Frame" "across" "I" ∈ xwl := xin1 (List.mem_of_getElem? (i := 139) (by decide +kernel)) rfl
theorem xw230 : Cond.lays RX0 "FrameSheets$Frame" "down" "I" ∈ xwl := xin1 (List.mem_of_getElem? (i := 141) (by decide +kernel)) rfl
theorem xw232 : Cond.lays RX0 "FrameSheets$Frame" "firstColumn" "I" ∈ xwl := xin1 (List.mem_of_getElem? (i := 143) (by decide +kernel)) rfl
theorem xw234 : Cond.lays RX0 "FrameSheets$Frame" "firstRow" "I" ∈ xwl := xin1 (List.mem_of_getElem? (i := 145) (by decide +kernel)) rfl
theorem xw237 : Cond.fieldLink RX7 11 "FrameSheets$Sheet" "frames" "[LFrameSheets$Frame;" ∈ xwl := xin1 (List.mem_of_getElem? (i := 148) (by decide +kernel)) rfl
theorem xw238 : Cond.fieldLink RX2 32 "FrameSheets$Sheet" "frames" "[LFrameSheets$Frame;" ∈ xwl := xin1 (List.mem_of_getElem? (i := 149) (by decide +kernel)) rfl
theorem xw239 : Cond.fieldLink RX6 45 "FrameSheets$Sheet" "frames" "[LFrameSheets$Frame;" ∈ xwl := xin1 (List.mem_of_getElem? (i := 150) (by decide +kernel)) rfl
theorem xw240 : Cond.fieldLink RX4 49 "FrameSheets$Sheet" "frames" "[LFrameSheets$Frame;" ∈ xwl := xin1 (List.mem_of_getElem? (i := 151) (by decide +kernel)) rfl
theorem xw241 : Cond.fieldLink RX3 95 "FrameSheets$Sheet" "frames" "[LFrameSheets$Frame;" ∈ xwl := xin1 (List.mem_of_getElem? (i := 152) (by decide +kernel)) rfl
theorem xw242 : Cond.fieldLink RX10 154 "FrameSheets$Sheet" "frames" "[LFrameSheets$Frame;" ∈ xwl := xin1 (List.mem_of_getElem? (i := 153) (by decide +kernel)) rfl
theorem xw243 : Cond.fieldLink RX7 17 "FrameSheets$Sheet" "size" "I" ∈ xwl := xin1 (List.mem_of_getElem? (i := 154) (by decide +kernel)) rfl
theorem xw244 : Cond.fieldLink RX4 38 "FrameSheets$Sheet" "size" "I" ∈ xwl := xin1 (List.mem_of_getElem? (i := 155) (by decide +kernel)) rfl
theorem xw245 : Cond.fieldLink RX6 44 "FrameSheets$Sheet" "size" "I" ∈ xwl := xin1 (List.mem_of_getElem? (i := 156) (by decide +kernel)) rfl
theorem xw246 : Cond.fieldLink RX2 57 "FrameSheets$Sheet" "size" "I" ∈ xwl := xin1 (List.mem_of_getElem? (i := 157) (by decide +kernel)) rfl
theorem xw247 : Cond.fieldLink RX3 52 "FrameSheets$Sheet" "size" "I" ∈ xwl := xin1 (List.mem_of_getElem? (i := 158) (by decide +kernel)) rfl
theorem xw248 : Cond.fieldLink RX10 140 "FrameSheets$Sheet" "size" "I" ∈ xwl := xin1 (List.mem_of_getElem? (i := 159) (by decide +kernel)) rfl
theorem xw249 : Cond.fieldLink RX7 21 "FrameSheets$Sheet" "wide" "I" ∈ xwl := xin1 (List.mem_of_getElem? (i := 160) (by decide +kernel)) rfl
theorem xw250 : Cond.fieldLink RX4 28 "FrameSheets$Sheet" "wide" "I" ∈ xwl := xin1 (List.mem_of_getElem? (i := 161) (by decide +kernel)) rfl
theorem xw251 : Cond.fieldLink RX6 25 "FrameSheets$Sheet" "wide" "I" ∈ xwl := xin1 (List.mem_of_getElem? (i := 162) (by decide +kernel)) rfl
theorem xw252 : Cond.fieldLink RX3 78 "FrameSheets$Sheet" "wide" "I" ∈ xwl := xin1 (List.mem_of_getElem? (i := 163) (by decide +kernel)) rfl
theorem xw253 : Cond.fieldLink RX10 243 "FrameSheets$Sheet" "wide" "I" ∈ xwl := xin1 (List.mem_of_getElem? (i := 164) (by decide +kernel)) rfl
theorem xw254 : Cond.fieldLink RX7 24 "FrameSheets$Sheet" "high" "I" ∈ xwl := xin1 (List.mem_of_getElem? (i := 165) (by decide +kernel)) rfl
theorem xw255 : Cond.fieldLink RX4 37 "FrameSheets$Sheet" "high" "I" ∈ xwl := xin1 (List.mem_of_getElem? (i := 166) (by decide +kernel)) rfl
theorem xw256 : Cond.fieldLink RX6 34 "FrameSheets$Sheet" "high" "I" ∈ xwl := xin1 (List.mem_of_getElem? (i := 167) (by decide +kernel)) rfl
theorem xw257 : Cond.fieldLink RX3 81 "FrameSheets$Sheet" "high" "I" ∈ xwl := xin1 (List.mem_of_getElem? (i := 168) (by decide +kernel)) rfl
theorem xw258 : Cond.fieldLink RX10 246 "FrameSheets$Sheet" "high" "I" ∈ xwl := xin1 (List.mem_of_getElem? (i := 169) (by decide +kernel)) rfl
theorem xw259 : Cond.fieldLink RX7 27 "FrameSheets$Sheet" "bleed" "I" ∈ xwl := xin1 (List.mem_of_getElem? (i := 170) (by decide +kernel)) rfl
theorem xw260 : Cond.fieldLink RX6 40 "FrameSheets$Sheet" "bleed" "I" ∈ xwl := xin1 (List.mem_of_getElem? (i := 171) (by decide +kernel)) rfl
theorem xw261 : Cond.fieldLink RX3 53 "FrameSheets$Sheet" "bleed" "I" ∈ xwl := xin1 (List.mem_of_getElem? (i := 172) (by decide +kernel)) rfl
theorem xw262 : Cond.fieldLink RX10 307 "FrameSheets$Sheet" "bleed" "I" ∈ xwl := xin1 (List.mem_of_getElem? (i := 173) (by decide +kernel)) rfl
theorem xw263 : Cond.laysFinal RX7 "FrameSheets$Sheet" "frames" "[LFrameSheets$Frame;" ∈ xwl := xin1 (List.mem_of_getElem? (i := 174) (by decide +kernel)) rfl
theorem xw265 : Cond.lays RX7 "FrameSheets$Sheet" "size" "I" ∈ xwl := xin1 (List.mem_of_getElem? (i := 176) (by decide +kernel)) rfl
theorem xw267 : Cond.lays RX7 "FrameSheets$Sheet" "wide" "I" ∈ xwl := xin1 (List.mem_of_getElem? (i := 178) (by decide +kernel)) rfl
theorem xw269 : Cond.lays RX7 "FrameSheets$Sheet" "high" "I" ∈ xwl := xin1 (List.mem_of_getElem? (i := 180) (by decide +kernel)) rfl
theorem xw271 : Cond.lays RX7 "FrameSheets$Sheet" "bleed" "I" ∈ xwl := xin1 (List.mem_of_getElem? (i := 182) (by decide +kernel)) rfl
theorem xw274 : Cond.fieldLink RX3 12 "FrameSheets$Reader" "draft" "LFrameSheets$Sheet;" ∈ xwl := xin1 (List.mem_of_getElem? (i := 185) (by decide +kernel)) rfl
theorem xw275 : Cond.fieldLink RX3 18 "FrameSheets$Reader" "bytes" "[B" ∈ xwl := xin1 (List.mem_of_getElem? (i := 186) (by decide +kernel)) rfl
theorem xw276 : Cond.fieldLink RX3 22 "FrameSheets$Reader" "size" "I" ∈ xwl := xin1 (List.mem_of_getElem? (i := 187) (by decide +kernel)) rfl
theorem xw277 : Cond.fieldLink RX3 26 "FrameSheets$Reader" "token" "I" ∈ xwl := xin1 (List.mem_of_getElem? (i := 188) (by decide +kernel)) rfl
theorem xw278 : Cond.fieldLink RX3 29 "FrameSheets$Reader" "from" "I" ∈ xwl := xin1 (List.mem_of_getElem? (i := 189) (by decide +kernel)) rfl
theorem xw279 : Cond.fieldLink RX3 32 "FrameSheets$Reader" "to" "I" ∈ xwl := xin1 (List.mem_of_getElem? (i := 190) (by decide +kernel)) rfl
theorem xw280 : Cond.fieldLink RX3 35 "FrameSheets$Reader" "value" "I" ∈ xwl := xin1 (List.mem_of_getElem? (i := 191) (by decide +kernel)) rfl
theorem xw281 : Cond.fieldLink RX3 38 "FrameSheets$Reader" "bleedIsTold" "Z" ∈ xwl := xin1 (List.mem_of_getElem? (i := 192) (by decide +kernel)) rfl
theorem xw282 : Cond.lays RX3 "FrameSheets$Reader" "draft" "LFrameSheets$Sheet;" ∈ xwl := xin1 (List.mem_of_getElem? (i := 193) (by decide +kernel)) rfl
theorem xw284 : Cond.lays RX3 "FrameSheets$Reader" "bytes" "[B" ∈ xwl := xin1 (List.mem_of_getElem? (i := 195) (by decide +kernel)) rfl
theorem xw286 : Cond.lays RX3 "FrameSheets$Reader" "size" "I" ∈ xwl := xin1 (List.mem_of_getElem? (i := 197) (by decide +kernel)) rfl
theorem xw288 : Cond.lays RX3 "FrameSheets$Reader" "token" "I" ∈ xwl := xin1 (List.mem_of_getElem? (i := 199) (by decide +kernel)) rfl
theorem xw290 : Cond.lays RX3 "FrameSheets$Reader" "from" "I" ∈ xwl := xin1 (List.mem_of_getElem? (i := 201) (by decide +kernel)) rfl
theorem xw292 : Cond.lays RX3 "FrameSheets$Reader" "to" "I" ∈ xwl := xin1 (List.mem_of_getElem? (i := 203) (by decide +kernel)) rfl
theorem xw294 : Cond.lays RX3 "FrameSheets$Reader" "value" "I" ∈ xwl := xin1 (List.mem_of_getElem? (i := 205) (by decide +kernel)) rfl
theorem xw296 : Cond.lays RX3 "FrameSheets$Reader" "bleedIsTold" "Z" ∈ xwl := xin1 (List.mem_of_getElem? (i := 207) (by decide +kernel)) rfl
theorem xw299 : Cond.arrayClass .byte ∈ xwl := xin1 (List.mem_of_getElem? (i := 210) (by decide +kernel)) rfl
theorem xw300 : Cond.classLink RX10 43 RX6 ∈ xwl := xin1 (List.mem_of_getElem? (i := 211) (by decide +kernel)) rfl
theorem xw301 : Cond.instantiable RX6 2 ∈ xwl := xin1 (List.mem_of_getElem? (i := 212) (by decide +kernel)) rfl
theorem xw303 : Cond.instanceMethod yX6_init ∈ xwl := xin1 (List.mem_of_getElem? (i := 214) (by decide +kernel)) rfl
theorem xw304 : Cond.code yX6_init cX6_init 1 none ∈ xwl := xin1 (List.mem_of_getElem? (i := 215) rfl) rfl
theorem xw305 : Cond.methodLink RX6 3 objectInit ∈ xwl := xin1 (List.mem_of_getElem? (i := 216) (by decide +kernel)) rfl
theorem xw306 : Cond.fieldLink RX6 9 "FrameSheets$Scribe" "bytes" "[B" ∈ xwl := xin1 (List.mem_of_getElem? (i := 217) (by decide +kernel)) rfl
theorem xw307 : Cond.fieldLink RX10 149 "FrameSheets$Scribe" "bytes" "[B" ∈ xwl := xin1 (List.mem_of_getElem? (i := 218) (by decide +kernel)) rfl
theorem xw308 : Cond.fieldLink RX6 15 "FrameSheets$Scribe" "size" "I" ∈ xwl := xin1 (List.mem_of_getElem? (i := 219) (by decide +kernel)) rfl
theorem xw309 : Cond.fieldLink RX10 148 "FrameSheets$Scribe" "size" "I" ∈ xwl := xin1 (List.mem_of_getElem? (i := 220) (by decide +kernel)) rfl
theorem xw310 : Cond.laysFinal RX6 "FrameSheets$Scribe" "bytes" "[B" ∈ xwl := xin1 (List.mem_of_getElem? (i := 221) (by decide +kernel)) rfl
theorem xw312 : Cond.lays RX6 "FrameSheets$Scribe" "size" "I" ∈ xwl := xin1 (List.mem_of_getElem? (i := 223) (by decide +kernel)) rfl
theorem xw315 : Cond.classLink RX10 50 RX2 ∈ xwl := xin1 (List.mem_of_getElem? (i := 226) (by decide +kernel)) rfl
theorem xw316 : Cond.instantiable RX2 2 ∈ xwl := xin1 (List.mem_of_getElem? (i := 227) (by decide +kernel)) rfl
theorem xw318 : Cond.instanceMethod yX2_init ∈ xwl := xin1 (List.mem_of_getElem? (i := 229) (by decide +kernel)) rfl
theorem xw319 : Cond.code yX2_init cX2_init 1 none ∈ xwl := xin1 (List.mem_of_getElem? (i := 230) rfl) rfl
theorem xw320 : Cond.methodLink RX2 3 objectInit ∈ xwl := xin1 (List.mem_of_getElem? (i := 231) (by decide +kernel)) rfl
theorem xw321 : Cond.classLink RX2 9 RX4 ∈ xwl := xin1 (List.mem_of_getElem? (i := 232) (by decide +kernel)) rfl
theorem xw322 : Cond.instantiable RX4 5 ∈ xwl := xin1 (List.mem_of_getElem? (i := 233) (by decide +kernel)) rfl
theorem xw324 : Cond.instanceMethod yX4_init ∈ xwl := xin1 (List.mem_of_getElem? (i := 235) (by decide +kernel)) rfl
theorem xw325 : Cond.code yX4_init cX4_init 1 none ∈ xwl := xin1 (List.mem_of_getElem? (i := 236) rfl) rfl
theorem xw326 : Cond.methodLink RX4 3 objectInit ∈ xwl := xin1 (List.mem_of_getElem? (i := 237) (by decide +kernel)) rfl
theorem xw327 : Cond.fieldLink RX4 9 "FrameSheets$Room" "taken" "[I" ∈ xwl := xin1 (List.mem_of_getElem? (i := 238) (by decide +kernel)) rfl
theorem xw328 : Cond.fieldLink RX4 15 "FrameSheets$Room" "free" "[I" ∈ xwl := xin1 (List.mem_of_getElem? (i := 239) (by decide +kernel)) rfl
theorem xw329 : Cond.fieldLink RX4 18 "FrameSheets$Room" "wide" "I" ∈ xwl := xin2 (List.mem_of_getElem? (i := 0) (by decide +kernel)) rfl
theorem xw330 : Cond.fieldLink RX4 22 "FrameSheets$Room" "high" "I" ∈ xwl := xin2 (List.mem_of_getElem? (i := 1) (by decide +kernel)) rfl
theorem xw331 : Cond.fieldLink RX4 25 "FrameSheets$Room" "size" "I" ∈ xwl := xin2 (List.mem_of_getElem? (i := 2) (by decide +kernel)) rfl
theorem xw332 : Cond.fieldLink RX10 241 "FrameSheets$Room" "size" "I" ∈ xwl := xin2 (List.mem_of_getElem? (i := 3) (by decide +kernel)) rfl
theorem xw333 : Cond.laysFinal RX4 "FrameSheets$Room" "taken" "[I" ∈ xwl := xin2 (List.mem_of_getElem? (i := 4) (by decide +kernel)) rfl
theorem xw335 : Cond.laysFinal RX4 "FrameSheets$Room" "free" "[I" ∈ xwl := xin2 (List.mem_of_getElem? (i := 6) (by decide +kernel)) rfl
theorem xw337 : Cond.lays RX4 "FrameSheets$Room" "wide" "I" ∈ xwl := xin2 (List.mem_of_getElem? (i := 8) (by decide +kernel)) rfl
theorem xw339 : Cond.lays RX4 "FrameSheets$Room" "high" "I" ∈ xwl := xin2 (List.mem_of_getElem? (i := 10) (by decide +kernel)) rfl
theorem xw341 : Cond.lays RX4 "FrameSheets$Room" "size" "I" ∈ xwl := xin2 (List.mem_of_getElem? (i := 12) (by decide +kernel)) rfl
theorem xw344 : Cond.fieldLink RX2 12 "FrameSheets$Packer" "room" "LFrameSheets$Room;" ∈ xwl := xin2 (List.mem_of_getElem? (i := 15) (by decide +kernel)) rfl
theorem xw345 : Cond.fieldLink RX10 232 "FrameSheets$Packer" "room" "LFrameSheets$Room;" ∈ xwl := xin2 (List.mem_of_getElem? (i := 16) (by decide +kernel)) rfl
theorem xw346 : Cond.fieldLink RX2 18 "FrameSheets$Packer" "queue" "[I" ∈ xwl := xin2 (List.mem_of_getElem? (i := 17) (by decide +kernel)) rfl
theorem xw347 : Cond.laysFinal RX2 "FrameSheets$Packer" "room" "LFrameSheets$Room;" ∈ xwl := xin2 (List.mem_of_getElem? (i := 18) (by decide +kernel)) rfl
theorem xw349 : Cond.laysFinal RX2 "FrameSheets$Packer" "queue" "[I" ∈ xwl := xin2 (List.mem_of_getElem? (i := 20) (by decide +kernel)) rfl
theorem xw352 : Cond.classLink RX10 57 RX1 ∈ xwl := xin2 (List.mem_of_getElem? (i := 23) (by decide +kernel)) rfl
theorem xw353 : Cond.methodLink RX10 59 yX1_init ∈ xwl := xin2 (List.mem_of_getElem? (i := 24) (by decide +kernel)) rfl
theorem xw354 : Cond.classLink RX10 68 RX7 ∈ xwl := xin2 (List.mem_of_getElem? (i := 25) (by decide +kernel)) rfl
theorem xw355 : Cond.methodLink RX10 70 yX7_init ∈ xwl := xin2 (List.mem_of_getElem? (i := 26) (by decide +kernel)) rfl
theorem xw356 : Cond.instantiable RX5 2 ∈ xwl := xin2 (List.mem_of_getElem? (i := 27) (by decide +kernel)) rfl
theorem xw358 : Cond.instanceMethod yX5_init ∈ xwl := xin2 (List.mem_of_getElem? (i := 29) (by decide +kernel)) rfl
theorem xw359 : Cond.code yX5_init cX5_init 1 none ∈ xwl := xin2 (List.mem_of_getElem? (i := 30) rfl) rfl
theorem xw360 : Cond.methodLink RX5 3 objectInit ∈ xwl := xin2 (List.mem_of_getElem? (i := 31) (by decide +kernel)) rfl
theorem xw361 : Cond.fieldLink RX5 9 "FrameSheets$Row" "places" "[I" ∈ xwl := xin2 (List.mem_of_getElem? (i := 32) (by decide +kernel)) rfl
theorem xw362 : Cond.fieldLink RX10 103 "FrameSheets$Row" "places" "[I" ∈ xwl := xin2 (List.mem_of_getElem? (i := 33) (by decide +kernel)) rfl
theorem xw363 : Cond.fieldLink RX5 15 "FrameSheets$Row" "size" "I" ∈ xwl := xin2 (List.mem_of_getElem? (i := 34) (by decide +kernel)) rfl
theorem xw364 : Cond.fieldLink RX10 100 "FrameSheets$Row" "size" "I" ∈ xwl := xin2 (List.mem_of_getElem? (i := 35) (by decide +kernel)) rfl
theorem xw365 : Cond.laysFinal RX5 "FrameSheets$Row" "places" "[I" ∈ xwl := xin2 (List.mem_of_getElem? (i := 36) (by decide +kernel)) rfl
theorem xw367 : Cond.lays RX5 "FrameSheets$Row" "size" "I" ∈ xwl := xin2 (List.mem_of_getElem? (i := 38) (by decide +kernel)) rfl
theorem xw370 : Cond.instantiable RX9 2 ∈ xwl := xin2 (List.mem_of_getElem? (i := 41) (by decide +kernel)) rfl
theorem xw372 : Cond.instanceMethod yX9_init ∈ xwl := xin2 (List.mem_of_getElem? (i := 43) (by decide +kernel)) rfl
theorem xw373 : Cond.code yX9_init cX9_init 1 none ∈ xwl := xin2 (List.mem_of_getElem? (i := 44) rfl) rfl
theorem xw374 : Cond.methodLink RX9 3 objectInit ∈ xwl := xin2 (List.mem_of_getElem? (i := 45) (by decide +kernel)) rfl
theorem xw375 : Cond.fieldLink RX9 9 "FrameSheets$Text" "bytes" "[B" ∈ xwl := xin2 (List.mem_of_getElem? (i := 46) (by decide +kernel)) rfl
theorem xw376 : Cond.fieldLink RX3 42 "FrameSheets$Text" "bytes" "[B" ∈ xwl := xin2 (List.mem_of_getElem? (i := 47) (by decide +kernel)) rfl
theorem xw377 : Cond.fieldLink RX10 125 "FrameSheets$Text" "bytes" "[B" ∈ xwl := xin2 (List.mem_of_getElem? (i := 48) (by decide +kernel)) rfl
theorem xw378 : Cond.fieldLink RX9 15 "FrameSheets$Text" "size" "I" ∈ xwl := xin2 (List.mem_of_getElem? (i := 49) (by decide +kernel)) rfl
theorem xw379 : Cond.fieldLink RX3 45 "FrameSheets$Text" "size" "I" ∈ xwl := xin2 (List.mem_of_getElem? (i := 50) (by decide +kernel)) rfl
theorem xw380 : Cond.fieldLink RX10 124 "FrameSheets$Text" "size" "I" ∈ xwl := xin2 (List.mem_of_getElem? (i := 51) (by decide +kernel)) rfl
theorem xw381 : Cond.laysFinal RX9 "FrameSheets$Text" "bytes" "[B" ∈ xwl := xin2 (List.mem_of_getElem? (i := 52) (by decide +kernel)) rfl
theorem xw383 : Cond.lays RX9 "FrameSheets$Text" "size" "I" ∈ xwl := xin2 (List.mem_of_getElem? (i := 54) (by decide +kernel)) rfl
theorem xw386 : Cond.fieldLink RX10 11 "FrameSheets" "rows" "[LFrameSheets$Row;" ∈ xwl := xin2 (List.mem_of_getElem? (i := 57) (by decide +kernel)) rfl
theorem xw387 : Cond.fieldLink RX10 17 "FrameSheets" "texts" "[LFrameSheets$Text;" ∈ xwl := xin2 (List.mem_of_getElem? (i := 58) (by decide +kernel)) rfl
theorem xw388 : Cond.fieldLink RX10 23 "FrameSheets" "kept" "[LFrameSheets$Story;" ∈ xwl := xin2 (List.mem_of_getElem? (i := 59) (by decide +kernel)) rfl
theorem xw389 : Cond.fieldLink RX10 27 "FrameSheets" "isKept" "[Z" ∈ xwl := xin2 (List.mem_of_getElem? (i := 60) (by decide +kernel)) rfl
theorem xw390 : Cond.fieldLink RX10 32 "FrameSheets" "story" "LFrameSheets$Story;" ∈ xwl := xin2 (List.mem_of_getElem? (i := 61) (by decide +kernel)) rfl
theorem xw391 : Cond.fieldLink RX10 39 "FrameSheets" "reader" "LFrameSheets$Reader;" ∈ xwl := xin2 (List.mem_of_getElem? (i := 62) (by decide +kernel)) rfl
theorem xw392 : Cond.fieldLink RX10 46 "FrameSheets" "scribe" "LFrameSheets$Scribe;" ∈ xwl := xin2 (List.mem_of_getElem? (i := 63) (by decide +kernel)) rfl
theorem xw393 : Cond.fieldLink RX10 53 "FrameSheets" "packer" "LFrameSheets$Packer;" ∈ xwl := xin2 (List.mem_of_getElem? (i := 64) (by decide +kernel)) rfl
theorem xw394 : Cond.fieldLink RX10 60 "FrameSheets" "aside" "LFrameSheets$Layout;" ∈ xwl := xin2 (List.mem_of_getElem? (i := 65) (by decide +kernel)) rfl
theorem xw395 : Cond.fieldLink RX10 64 "FrameSheets" "findingCounts" "[I" ∈ xwl := xin2 (List.mem_of_getElem? (i := 66) (by decide +kernel)) rfl
theorem xw396 : Cond.fieldLink RX10 71 "FrameSheets" "current" "LFrameSheets$Sheet;" ∈ xwl := xin2 (List.mem_of_getElem? (i := 67) (by decide +kernel)) rfl
theorem xw397 : Cond.fieldLink RX10 75 "FrameSheets" "told" "I" ∈ xwl := xin2 (List.mem_of_getElem? (i := 68) (by decide +kernel)) rfl
theorem xw398 : Cond.fieldLink RX10 79 "FrameSheets" "latestFinding" "I" ∈ xwl := xin2 (List.mem_of_getElem? (i := 69) (by decide +kernel)) rfl
theorem xw399 : Cond.laysFinal RX10 "FrameSheets" "rows" "[LFrameSheets$Row;" ∈ xwl := xin2 (List.mem_of_getElem? (i := 70) (by decide +kernel)) rfl
theorem xw401 : Cond.laysFinal RX10 "FrameSheets" "texts" "[LFrameSheets$Text;" ∈ xwl := xin2 (List.mem_of_getElem? (i := 72) (by decide +kernel)) rfl
theorem xw403 : Cond.laysFinal RX10 "FrameSheets" "kept" "[LFrameSheets$Story;" ∈ xwl := xin2 (List.mem_of_getElem? (i := 74) (by decide +kernel)) rfl
theorem xw405 : Cond.laysFinal RX10 "FrameSheets" "isKept" "[Z" ∈ xwl := xin2 (List.mem_of_getElem? (i := 76) (by decide +kernel)) rfl
theorem xw407 : Cond.laysFinal RX10 "FrameSheets" "story" "LFrameSheets$Story;" ∈ xwl := xin2 (List.mem_of_getElem? (i := 78) (by decide +kernel)) rfl
theorem xw409 : Cond.laysFinal RX10 "FrameSheets" "reader" "LFrameSheets$Reader;" ∈ xwl := xin2 (List.mem_of_getElem? (i := 80) (by decide +kernel)) rfl
theorem xw411 : Cond.laysFinal RX10 "FrameSheets" "scribe" "LFrameSheets$Scribe;" ∈ xwl := xin2 (List.mem_of_getElem? (i := 82) (by decide +kernel)) rfl
theorem xw413 : Cond.laysFinal RX10 "FrameSheets" "packer" "LFrameSheets$Packer;" ∈ xwl := xin2 (List.mem_of_getElem? (i := 84) (by decide +kernel)) rfl
theorem xw415 : Cond.laysFinal RX10 "FrameSheets" "aside" "LFrameSheets$Layout;" ∈ xwl := xin2 (List.mem_of_getElem? (i := 86) (by decide +kernel)) rfl
theorem xw417 : Cond.laysFinal RX10 "FrameSheets" "findingCounts" "[I" ∈ xwl := xin2 (List.mem_of_getElem? (i := 88) (by decide +kernel)) rfl
theorem xw419 : Cond.lays RX10 "FrameSheets" "current" "LFrameSheets$Sheet;" ∈ xwl := xin2 (List.mem_of_getElem? (i := 90) (by decide +kernel)) rfl
theorem xw421 : Cond.lays RX10 "FrameSheets" "told" "I" ∈ xwl := xin2 (List.mem_of_getElem? (i := 92) (by decide +kernel)) rfl
theorem xw423 : Cond.lays RX10 "FrameSheets" "latestFinding" "I" ∈ xwl := xin2 (List.mem_of_getElem? (i := 94) (by decide +kernel)) rfl
theorem xw426 : Cond.methodLink RL 13 yX10_row ∈ xwl := xin2 (List.mem_of_getElem? (i := 97) (by decide +kernel)) rfl
theorem xw427 : Cond.instanceMethod yX10_row ∈ xwl := xin2 (List.mem_of_getElem? (i := 98) (by decide +kernel)) rfl
theorem xw428 : Cond.selects RX10 yX10_row yX10_row ∈ xwl := xin2 (List.mem_of_getElem? (i := 99) (by decide +kernel)) rfl
theorem xw429 : Cond.code yX10_row cX10_row 3 (some .int) ∈ xwl := xin2 (List.mem_of_getElem? (i := 100) rfl) rfl
theorem xw430 : Cond.methodLink RX10 84 yX10_isBelow ∈ xwl := xin2 (List.mem_of_getElem? (i := 101) (by decide +kernel)) rfl
theorem xw431 : Cond.static yX10_isBelow ∈ xwl := xin2 (List.mem_of_getElem? (i := 102) (by decide +kernel)) rfl
theorem xw432 : Cond.code yX10_isBelow cX10_isBelow 2 (some .boolean) ∈ xwl := xin2 (List.mem_of_getElem? (i := 103) rfl) rfl
theorem xw433 : Cond.methodLink RX10 88 yX10_refuse ∈ xwl := xin2 (List.mem_of_getElem? (i := 104) (by decide +kernel)) rfl
theorem xw435 : Cond.instanceMethod yX10_refuse ∈ xwl := xin2 (List.mem_of_getElem? (i := 106) (by decide +kernel)) rfl
theorem xw436 : Cond.code yX10_refuse cX10_refuse 2 (some .int) ∈ xwl := xin2 (List.mem_of_getElem? (i := 107) rfl) rfl
theorem xw437 : Cond.methodLink RX10 92 yX5_renew ∈ xwl := xin2 (List.mem_of_getElem? (i := 108) (by decide +kernel)) rfl
theorem xw438 : Cond.instanceMethod yX5_renew ∈ xwl := xin2 (List.mem_of_getElem? (i := 109) (by decide +kernel)) rfl
theorem xw439 : Cond.selects RX5 yX5_renew yX5_renew ∈ xwl := xin2 (List.mem_of_getElem? (i := 110) (by decide +kernel)) rfl
theorem xw440 : Cond.code yX5_renew cX5_renew 3 none ∈ xwl := xin2 (List.mem_of_getElem? (i := 111) rfl) rfl
theorem xw441 : Cond.methodLink RX5 19 ⟨"java/lang/Math", "min", "(II)I"⟩ ∈ xwl := xin2 (List.mem_of_getElem? (i := 112) (by decide +kernel)) rfl
theorem xw442 : Cond.static ⟨"java/lang/Math", "min", "(II)I"⟩ ∈ xwl := xin2 (List.mem_of_getElem? (i := 113) (by decide +kernel)) rfl
theorem xw443 : Cond.code ⟨"java/lang/Math", "min", "(II)I"⟩ prog_14_method_69_code 2 (some .int) ∈ xwl := xin2 (List.mem_of_getElem? (i := 114) rfl) rfl
theorem xw444 : Cond.methodLink RX5 25 ⟨"java/lang/Math", "max", "(II)I"⟩ ∈ xwl := xin2 (List.mem_of_getElem? (i := 115) (by decide +kernel)) rfl
theorem xw445 : Cond.static ⟨"java/lang/Math", "max", "(II)I"⟩ ∈ xwl := xin2 (List.mem_of_getElem? (i := 116) (by decide +kernel)) rfl
theorem xw446 : Cond.code ⟨"java/lang/Math", "max", "(II)I"⟩ prog_14_method_65_code 2 (some .int) ∈ xwl := xin2 (List.mem_of_getElem? (i := 117) rfl) rfl
theorem xw447 : Cond.methodLink RL 18 yX10_lay ∈ xwl := xin2 (List.mem_of_getElem? (i := 118) (by decide +kernel)) rfl
theorem xw448 : Cond.instanceMethod yX10_lay ∈ xwl := xin2 (List.mem_of_getElem? (i := 119) (by decide +kernel)) rfl
theorem xw449 : Cond.selects RX10 yX10_lay yX10_lay ∈ xwl := xin2 (List.mem_of_getElem? (i := 120) (by decide +kernel)) rfl
theorem xw450 : Cond.code yX10_lay cX10_lay 6 (some .int) ∈ xwl := xin2 (List.mem_of_getElem? (i := 121) rfl) rfl
theorem xw451 : Cond.methodLink RX10 96 yX5_isMissing ∈ xwl := xin2 (List.mem_of_getElem? (i := 122) (by decide +kernel)) rfl
theorem xw452 : Cond.instanceMethod yX5_isMissing ∈ xwl := xin2 (List.mem_of_getElem? (i := 123) (by decide +kernel)) rfl
theorem xw453 : Cond.selects RX5 yX5_isMissing yX5_isMissing ∈ xwl := xin2 (List.mem_of_getElem? (i := 124) (by decide +kernel)) rfl
theorem xw454 : Cond.code yX5_isMissing cX5_isMissing 1 (some .boolean) ∈ xwl := xin2 (List.mem_of_getElem? (i := 125) rfl) rfl
theorem xw455 : Cond.methodLink RX10 106 yX10_tell ∈ xwl := xin2 (List.mem_of_getElem? (i := 126) (by decide +kernel)) rfl
theorem xw457 : Cond.instanceMethod yX10_tell ∈ xwl := xin2 (List.mem_of_getElem? (i := 128) (by decide +kernel)) rfl
theorem xw458 : Cond.code yX10_tell cX10_tell 2 (some .int) ∈ xwl := xin2 (List.mem_of_getElem? (i := 129) rfl) rfl
theorem xw459 : Cond.methodLink RL 23 yX10_at ∈ xwl := xin2 (List.mem_of_getElem? (i := 130) (by decide +kernel)) rfl
theorem xw460 : Cond.instanceMethod yX10_at ∈ xwl := xin2 (List.mem_of_getElem? (i := 131) (by decide +kernel)) rfl
theorem xw461 : Cond.selects RX10 yX10_at yX10_at ∈ xwl := xin2 (List.mem_of_getElem? (i := 132) (by decide +kernel)) rfl
theorem xw462 : Cond.code yX10_at cX10_at 4 (some .int) ∈ xwl := xin2 (List.mem_of_getElem? (i := 133) rfl) rfl
theorem xw463 : Cond.methodLink RL 27 yX10_tear ∈ xwl := xin2 (List.mem_of_getElem? (i := 134) (by decide +kernel)) rfl
theorem xw464 : Cond.instanceMethod yX10_tear ∈ xwl := xin2 (List.mem_of_getElem? (i := 135) (by decide +kernel)) rfl
theorem xw465 : Cond.selects RX10 yX10_tear yX10_tear ∈ xwl := xin2 (List.mem_of_getElem? (i := 136) (by decide +kernel)) rfl
theorem xw466 : Cond.code yX10_tear cX10_tear 2 (some .int) ∈ xwl := xin2 (List.mem_of_getElem? (i := 137) rfl) rfl
theorem xw467 : Cond.methodLink RL 32 yX10_copy ∈ xwl := xin2 (List.mem_of_getElem? (i := 138) (by decide +kernel)) rfl
theorem xw468 : Cond.instanceMethod yX10_copy ∈ xwl := xin2 (List.mem_of_getElem? (i := 139) (by decide +kernel)) rfl
theorem xw469 : Cond.selects RX10 yX10_copy yX10_copy ∈ xwl := xin2 (List.mem_of_getElem? (i := 140) (by decide +kernel)) rfl
theorem xw470 : Cond.code yX10_copy cX10_copy 8 (some .int) ∈ xwl := xin2 (List.mem_of_getElem? (i := 141) rfl) rfl
theorem xw471 : Cond.methodLink RX10 109 yX5_holds ∈ xwl := xin2 (List.mem_of_getElem? (i := 142) (by decide +kernel)) rfl
theorem xw472 : Cond.instanceMethod yX5_holds ∈ xwl := xin2 (List.mem_of_getElem? (i := 143) (by decide +kernel)) rfl
theorem xw473 : Cond.selects RX5 yX5_holds yX5_holds ∈ xwl := xin2 (List.mem_of_getElem? (i := 144) (by decide +kernel)) rfl
theorem xw474 : Cond.code yX5_holds cX5_holds 3 (some .boolean) ∈ xwl := xin2 (List.mem_of_getElem? (i := 145) rfl) rfl
theorem xw475 : Cond.methodLink RX10 112 ⟨"java/lang/System", "arraycopy", "(Ljava/lang/Object;ILjava/lang/Object;II)V"⟩ ∈ xwl := xin2 (List.mem_of_getElem? (i := 146) (by decide +kernel)) rfl
theorem xw476 : Cond.static ⟨"java/lang/System", "arraycopy", "(Ljava/lang/Object;ILjava/lang/Object;II)V"⟩ ∈ xwl := xin2 (List.mem_of_getElem? (i := 147) (by decide +kernel)) rfl
theorem xw477 : Cond.native arraycopyName ∈ xwl := xin2 (List.mem_of_getElem? (i := 148) (by decide +kernel)) rfl
theorem xw478 : Cond.methodLink RL 37 yX10_mean ∈ xwl := xin2 (List.mem_of_getElem? (i := 149) (by decide +kernel)) rfl
theorem xw479 : Cond.instanceMethod yX10_mean ∈ xwl := xin2 (List.mem_of_getElem? (i := 150) (by decide +kernel)) rfl
theorem xw480 : Cond.selects RX10 yX10_mean yX10_mean ∈ xwl := xin2 (List.mem_of_getElem? (i := 151) (by decide +kernel)) rfl
theorem xw481 : Cond.code yX10_mean cX10_mean 3 (some .int) ∈ xwl := xin2 (List.mem_of_getElem? (i := 152) rfl) rfl
theorem xw482 : Cond.methodLink RX10 118 yX5_sum ∈ xwl := xin2 (List.mem_of_getElem? (i := 153) (by decide +kernel)) rfl
theorem xw483 : Cond.instanceMethod yX5_sum ∈ xwl := xin2 (List.mem_of_getElem? (i := 154) (by decide +kernel)) rfl
theorem xw484 : Cond.selects RX5 yX5_sum yX5_sum ∈ xwl := xin2 (List.mem_of_getElem? (i := 155) (by decide +kernel)) rfl
theorem xw485 : Cond.code yX5_sum cX5_sum 4 (some .long) ∈ xwl := xin2 (List.mem_of_getElem? (i := 156) rfl) rfl
theorem xw486 : Cond.methodLink RL 41 yX10_text ∈ xwl := xin2 (List.mem_of_getElem? (i := 157) (by decide +kernel)) rfl
theorem xw487 : Cond.instanceMethod yX10_text ∈ xwl := xin2 (List.mem_of_getElem? (i := 158) (by decide +kernel)) rfl
theorem xw488 : Cond.selects RX10 yX10_text yX10_text ∈ xwl := xin2 (List.mem_of_getElem? (i := 159) (by decide +kernel)) rfl
theorem xw489 : Cond.code yX10_text cX10_text 3 (some .int) ∈ xwl := xin2 (List.mem_of_getElem? (i := 160) rfl) rfl
theorem xw490 : Cond.methodLink RX10 122 yX9_renew ∈ xwl := xin2 (List.mem_of_getElem? (i := 161) (by decide +kernel)) rfl
theorem xw491 : Cond.instanceMethod yX9_renew ∈ xwl := xin2 (List.mem_of_getElem? (i := 162) (by decide +kernel)) rfl
theorem xw492 : Cond.selects RX9 yX9_renew yX9_renew ∈ xwl := xin2 (List.mem_of_getElem? (i := 163) (by decide +kernel)) rfl
theorem xw493 : Cond.code yX9_renew cX9_renew 3 none ∈ xwl := xin2 (List.mem_of_getElem? (i := 164) rfl) rfl
theorem xw494 : Cond.methodLink RX9 19 ⟨"java/lang/Math", "min", "(II)I"⟩ ∈ xwl := xin2 (List.mem_of_getElem? (i := 165) (by decide +kernel)) rfl
theorem xw495 : Cond.methodLink RX9 25 ⟨"java/lang/Math", "max", "(II)I"⟩ ∈ xwl := xin2 (List.mem_of_getElem? (i := 166) (by decide +kernel)) rfl
theorem xw496 : Cond.methodLink RL 45 yX10_put ∈ xwl := xin2 (List.mem_of_getElem? (i := 167) (by decide +kernel)) rfl
theorem xw497 : Cond.instanceMethod yX10_put ∈ xwl := xin2 (List.mem_of_getElem? (i := 168) (by decide +kernel)) rfl
theorem xw498 : Cond.selects RX10 yX10_put yX10_put ∈ xwl := xin2 (List.mem_of_getElem? (i := 169) (by decide +kernel)) rfl
theorem xw499 : Cond.code yX10_put cX10_put 6 (some .int) ∈ xwl := xin2 (List.mem_of_getElem? (i := 170) rfl) rfl
theorem xw500 : Cond.methodLink RX10 123 yX9_isMissing ∈ xwl := xin2 (List.mem_of_getElem? (i := 171) (by decide +kernel)) rfl
theorem xw501 : Cond.instanceMethod yX9_isMissing ∈ xwl := xin2 (List.mem_of_getElem? (i := 172) (by decide +kernel)) rfl
theorem xw502 : Cond.selects RX9 yX9_isMissing yX9_isMissing ∈ xwl := xin2 (List.mem_of_getElem? (i := 173) (by decide +kernel)) rfl
theorem xw503 : Cond.code yX9_isMissing cX9_isMissing 1 (some .boolean) ∈ xwl := xin2 (List.mem_of_getElem? (i := 174) rfl) rfl
theorem xw504 : Cond.methodLink RL 49 yX10_fault ∈ xwl := xin2 (List.mem_of_getElem? (i := 175) (by decide +kernel)) rfl
theorem xw505 : Cond.instanceMethod yX10_fault ∈ xwl := xin2 (List.mem_of_getElem? (i := 176) (by decide +kernel)) rfl
theorem xw506 : Cond.selects RX10 yX10_fault yX10_fault ∈ xwl := xin2 (List.mem_of_getElem? (i := 177) (by decide +kernel)) rfl
theorem xw507 : Cond.code yX10_fault cX10_fault 2 (some .int) ∈ xwl := xin2 (List.mem_of_getElem? (i := 178) rfl) rfl
theorem xw508 : Cond.methodLink RX10 129 yX3_faultOf ∈ xwl := xin2 (List.mem_of_getElem? (i := 179) (by decide +kernel)) rfl
theorem xw509 : Cond.instanceMethod yX3_faultOf ∈ xwl := xin2 (List.mem_of_getElem? (i := 180) (by decide +kernel)) rfl
theorem xw510 : Cond.selects RX3 yX3_faultOf yX3_faultOf ∈ xwl := xin2 (List.mem_of_getElem? (i := 181) (by decide +kernel)) rfl
theorem xw511 : Cond.code yX3_faultOf cX3_faultOf 3 (some .int) ∈ xwl := xin2 (List.mem_of_getElem? (i := 182) rfl) rfl
theorem xw512 : Cond.methodLink RX3 46 ⟨"java/lang/Math", "min", "(II)I"⟩ ∈ xwl := xin2 (List.mem_of_getElem? (i := 183) (by decide +kernel)) rfl
theorem xw513 : Cond.methodLink RX3 56 yX3_advance ∈ xwl := xin2 (List.mem_of_getElem? (i := 184) (by decide +kernel)) rfl
theorem xw515 : Cond.instanceMethod yX3_advance ∈ xwl := xin2 (List.mem_of_getElem? (i := 186) (by decide +kernel)) rfl
theorem xw516 : Cond.code yX3_advance cX3_advance 2 none ∈ xwl := xin2 (List.mem_of_getElem? (i := 187) rfl) rfl
theorem xw517 : Cond.methodLink RX3 142 yX3_isLetter ∈ xwl := xin2 (List.mem_of_getElem? (i := 188) (by decide +kernel)) rfl
theorem xw518 : Cond.static yX3_isLetter ∈ xwl := xin2 (List.mem_of_getElem? (i := 189) (by decide +kernel)) rfl
theorem xw519 : Cond.code yX3_isLetter cX3_isLetter 1 (some .boolean) ∈ xwl := xin2 (List.mem_of_getElem? (i := 190) rfl) rfl
theorem xw520 : Cond.methodLink RX3 146 yX3_isFigure ∈ xwl := xin2 (List.mem_of_getElem? (i := 191) (by decide +kernel)) rfl
theorem xw521 : Cond.static yX3_isFigure ∈ xwl := xin2 (List.mem_of_getElem? (i := 192) (by decide +kernel)) rfl
theorem xw522 : Cond.code yX3_isFigure cX3_isFigure 1 (some .boolean) ∈ xwl := xin2 (List.mem_of_getElem? (i := 193) rfl) rfl
theorem xw523 : Cond.methodLink RX3 59 yX3_readPage ∈ xwl := xin2 (List.mem_of_getElem? (i := 194) (by decide +kernel)) rfl
theorem xw525 : Cond.instanceMethod yX3_readPage ∈ xwl := xin2 (List.mem_of_getElem? (i := 196) (by decide +kernel)) rfl
theorem xw526 : Cond.code yX3_readPage cX3_readPage 1 (some .boolean) ∈ xwl := xin2 (List.mem_of_getElem? (i := 197) rfl) rfl
theorem xw528 : Cond.methodLink RX3 71 yX3_isAtWord ∈ xwl := xin2 (List.mem_of_getElem? (i := 199) (by decide +kernel)) rfl
theorem xw530 : Cond.instanceMethod yX3_isAtWord ∈ xwl := xin2 (List.mem_of_getElem? (i := 201) (by decide +kernel)) rfl
theorem xw531 : Cond.code yX3_isAtWord cX3_isAtWord 3 (some .boolean) ∈ xwl := xin2 (List.mem_of_getElem? (i := 202) rfl) rfl
theorem xw532 : Cond.methodLink RX3 133 ⟨"java/lang/String", "length", "()I"⟩ ∈ xwl := xin2 (List.mem_of_getElem? (i := 203) (by decide +kernel)) rfl
theorem xw533 : Cond.instanceMethod ⟨"java/lang/String", "length", "()I"⟩ ∈ xwl := xin2 (List.mem_of_getElem? (i := 204) (by decide +kernel)) rfl
theorem xw534 : Cond.selects "java/lang/String" ⟨"java/lang/String", "length", "()I"⟩ ⟨"java/lang/String", "length", "()I"⟩ ∈ xwl := xin2 (List.mem_of_getElem? (i := 205) (by decide +kernel)) rfl
theorem xw535 : Cond.code ⟨"java/lang/String", "length", "()I"⟩ prog_15_method_54_code 1 (some .int) ∈ xwl := xin2 (List.mem_of_getElem? (i := 206) rfl) rfl
theorem xw536 : Cond.methodLink "java/lang/String" 335 ⟨"java/lang/String", "coder", "()B"⟩ ∈ xwl := xin2 (List.mem_of_getElem? (i := 207) (by decide +kernel)) rfl
theorem xw537 : Cond.instanceMethod ⟨"java/lang/String", "coder", "()B"⟩ ∈ xwl := xin2 (List.mem_of_getElem? (i := 208) (by decide +kernel)) rfl
theorem xw538 : Cond.selects "java/lang/String" ⟨"java/lang/String", "coder", "()B"⟩ ⟨"java/lang/String", "coder", "()B"⟩ ∈ xwl := xin2 (List.mem_of_getElem? (i := 209) (by decide +kernel)) rfl
theorem xw539 : Cond.code ⟨"java/lang/String", "coder", "()B"⟩ prog_15_method_152_code 1 (some .byte) ∈ xwl := xin2 (List.mem_of_getElem? (i := 210) rfl) rfl
theorem xw540 : Cond.fieldLink "java/lang/String" 38 "java/lang/String" "COMPACT_STRINGS" "Z" ∈ xwl := xin2 (List.mem_of_getElem? (i := 211) (by decide +kernel)) rfl
theorem xw542 : Cond.methodLink RX3 138 ⟨"java/lang/String", "charAt", "(I)C"⟩ ∈ xwl := xin2 (List.mem_of_getElem? (i := 213) (by decide +kernel)) rfl
theorem xw543 : Cond.instanceMethod ⟨"java/lang/String", "charAt", "(I)C"⟩ ∈ xwl := xin2 (List.mem_of_getElem? (i := 214) (by decide +kernel)) rfl
theorem xw544 : Cond.selects "java/lang/String" ⟨"java/lang/String", "charAt", "(I)C"⟩ ⟨"java/lang/String", "charAt", "(I)C"⟩ ∈ xwl := xin2 (List.mem_of_getElem? (i := 215) (by decide +kernel)) rfl
theorem xw545 : Cond.code ⟨"java/lang/String", "charAt", "(I)C"⟩ prog_15_method_56_code 2 (some .char) ∈ xwl := xin2 (List.mem_of_getElem? (i := 216) rfl) rfl
theorem xw546 : Cond.methodLink "java/lang/String" 492 ⟨"java/lang/String", "isLatin1", "()Z"⟩ ∈ xwl := xin2 (List.mem_of_getElem? (i := 217) (by decide +kernel)) rfl
theorem xw547 : Cond.instanceMethod ⟨"java/lang/String", "isLatin1", "()Z"⟩ ∈ xwl := xin2 (List.mem_of_getElem? (i := 218) (by decide +kernel)) rfl
theorem xw548 : Cond.selects "java/lang/String" ⟨"java/lang/String", "isLatin1", "()Z"⟩ ⟨"java/lang/String", "isLatin1", "()Z"⟩ ∈ xwl := xin2 (List.mem_of_getElem? (i := 219) (by decide +kernel)) rfl
theorem xw549 : Cond.code ⟨"java/lang/String", "isLatin1", "()Z"⟩ prog_15_method_154_code 1 (some .boolean) ∈ xwl := xin2 (List.mem_of_getElem? (i := 220) rfl) rfl
theorem xw550 : Cond.methodLink "java/lang/String" 495 ⟨"java/lang/StringLatin1", "charAt", "([BI)C"⟩ ∈ xwl := xin2 (List.mem_of_getElem? (i := 221) (by decide +kernel)) rfl
theorem xw551 : Cond.static ⟨"java/lang/StringLatin1", "charAt", "([BI)C"⟩ ∈ xwl := xin2 (List.mem_of_getElem? (i := 222) (by decide +kernel)) rfl
theorem xw552 : Cond.code ⟨"java/lang/StringLatin1", "charAt", "([BI)C"⟩ prog_16_method_2_code 2 (some .char) ∈ xwl := xin2 (List.mem_of_getElem? (i := 223) rfl) rfl
theorem xw553 : Cond.methodLink "java/lang/StringLatin1" 9 ⟨"java/lang/String", "checkIndex", "(II)V"⟩ ∈ xwl := xin2 (List.mem_of_getElem? (i := 224) (by decide +kernel)) rfl
theorem xw554 : Cond.static ⟨"java/lang/String", "checkIndex", "(II)V"⟩ ∈ xwl := xin2 (List.mem_of_getElem? (i := 225) (by decide +kernel)) rfl
theorem xw555 : Cond.code ⟨"java/lang/String", "checkIndex", "(II)V"⟩ prog_15_method_155_code 2 none ∈ xwl := xin2 (List.mem_of_getElem? (i := 226) rfl) rfl
theorem xw556 : Cond.fieldLink "java/lang/String" 1053 "jdk/internal/util/Preconditions" "SIOOBE_FORMATTER" "Ljava/util/function/BiFunction;" ∈ xwl := xin2 (List.mem_of_getElem? (i := 227) (by decide +kernel)) rfl
theorem xw558 : Cond.methodLink "java/lang/String" 1059 ⟨"jdk/internal/util/Preconditions", "checkIndex", "(IILjava/util/function/BiFunction;)I"⟩ ∈ xwl := xin2 (List.mem_of_getElem? (i := 229) (by decide +kernel)) rfl
theorem xw559 : Cond.static ⟨"jdk/internal/util/Preconditions", "checkIndex", "(IILjava/util/function/BiFunction;)I"⟩ ∈ xwl := xin2 (List.mem_of_getElem? (i := 230) (by decide +kernel)) rfl
theorem xw560 : Cond.code ⟨"jdk/internal/util/Preconditions", "checkIndex", "(IILjava/util/function/BiFunction;)I"⟩ prog_19_method_11_code 3 (some .int) ∈ xwl := xin2 (List.mem_of_getElem? (i := 231) rfl) rfl
theorem xw561 : Cond.methodLink "java/lang/String" 498 ⟨"java/lang/StringUTF16", "charAt", "([BI)C"⟩ ∈ xwl := xin2 (List.mem_of_getElem? (i := 232) (by decide +kernel)) rfl
theorem xw562 : Cond.static ⟨"java/lang/StringUTF16", "charAt", "([BI)C"⟩ ∈ xwl := xin2 (List.mem_of_getElem? (i := 233) (by decide +kernel)) rfl
theorem xw563 : Cond.code ⟨"java/lang/StringUTF16", "charAt", "([BI)C"⟩ prog_17_method_83_code 2 (some .char) ∈ xwl := xin2 (List.mem_of_getElem? (i := 234) rfl) rfl
theorem xw564 : Cond.methodLink "java/lang/StringUTF16" 67 ⟨"java/lang/StringUTF16", "checkIndex", "(I[B)V"⟩ ∈ xwl := xin2 (List.mem_of_getElem? (i := 235) (by decide +kernel)) rfl
theorem xw565 : Cond.static ⟨"java/lang/StringUTF16", "checkIndex", "(I[B)V"⟩ ∈ xwl := xin2 (List.mem_of_getElem? (i := 236) (by decide +kernel)) rfl
theorem xw566 : Cond.code ⟨"java/lang/StringUTF16", "checkIndex", "(I[B)V"⟩ prog_17_method_91_code 2 none ∈ xwl := xin2 (List.mem_of_getElem? (i := 237) rfl) rfl
theorem xw567 : Cond.methodLink "java/lang/StringUTF16" 48 ⟨"java/lang/StringUTF16", "length", "([B)I"⟩ ∈ xwl := xin2 (List.mem_of_getElem? (i := 238) (by decide +kernel)) rfl
theorem xw568 : Cond.static ⟨"java/lang/StringUTF16", "length", "([B)I"⟩ ∈ xwl := xin2 (List.mem_of_getElem? (i := 239) (by decide +kernel)) rfl
theorem xw569 : Cond.code ⟨"java/lang/StringUTF16", "length", "([B)I"⟩ prog_17_method_6_code 1 (some .int) ∈ xwl := xin3 (List.mem_of_getElem? (i := 0) rfl) rfl
theorem xw570 : Cond.methodLink "java/lang/StringUTF16" 414 ⟨"java/lang/String", "checkIndex", "(II)V"⟩ ∈ xwl := xin3 (List.mem_of_getElem? (i := 1) (by decide +kernel)) rfl
theorem xw571 : Cond.methodLink "java/lang/StringUTF16" 71 ⟨"java/lang/StringUTF16", "getChar", "([BI)C"⟩ ∈ xwl := xin3 (List.mem_of_getElem? (i := 2) (by decide +kernel)) rfl
theorem xw572 : Cond.static ⟨"java/lang/StringUTF16", "getChar", "([BI)C"⟩ ∈ xwl := xin3 (List.mem_of_getElem? (i := 3) (by decide +kernel)) rfl
theorem xw573 : Cond.code ⟨"java/lang/StringUTF16", "getChar", "([BI)C"⟩ prog_17_method_5_code 2 (some .char) ∈ xwl := xin3 (List.mem_of_getElem? (i := 4) rfl) rfl
theorem xw574 : Cond.fieldLink "java/lang/StringUTF16" 44 "java/lang/StringUTF16" "$assertionsDisabled" "Z" ∈ xwl := xin3 (List.mem_of_getElem? (i := 5) (by decide +kernel)) rfl
theorem xw576 : Cond.fieldLink "java/lang/StringUTF16" 59 "java/lang/StringUTF16" "HI_BYTE_SHIFT" "I" ∈ xwl := xin3 (List.mem_of_getElem? (i := 7) (by decide +kernel)) rfl
theorem xw578 : Cond.fieldLink "java/lang/StringUTF16" 63 "java/lang/StringUTF16" "LO_BYTE_SHIFT" "I" ∈ xwl := xin3 (List.mem_of_getElem? (i := 9) (by decide +kernel)) rfl
theorem xw580 : Cond.methodLink RX3 75 yX3_takeNumber ∈ xwl := xin3 (List.mem_of_getElem? (i := 11) (by decide +kernel)) rfl
theorem xw582 : Cond.instanceMethod yX3_takeNumber ∈ xwl := xin3 (List.mem_of_getElem? (i := 13) (by decide +kernel)) rfl
theorem xw583 : Cond.code yX3_takeNumber cX3_takeNumber 4 (some .int) ∈ xwl := xin3 (List.mem_of_getElem? (i := 14) rfl) rfl
theorem xw584 : Cond.methodLink RX3 84 yX3_takeStop ∈ xwl := xin3 (List.mem_of_getElem? (i := 15) (by decide +kernel)) rfl
theorem xw586 : Cond.instanceMethod yX3_takeStop ∈ xwl := xin3 (List.mem_of_getElem? (i := 17) (by decide +kernel)) rfl
theorem xw587 : Cond.code yX3_takeStop cX3_takeStop 1 (some .boolean) ∈ xwl := xin3 (List.mem_of_getElem? (i := 18) rfl) rfl
theorem xw588 : Cond.methodLink RX3 63 yX3_readStatement ∈ xwl := xin3 (List.mem_of_getElem? (i := 19) (by decide +kernel)) rfl
theorem xw590 : Cond.instanceMethod yX3_readStatement ∈ xwl := xin3 (List.mem_of_getElem? (i := 21) (by decide +kernel)) rfl
theorem xw591 : Cond.code yX3_readStatement cX3_readStatement 3 (some .boolean) ∈ xwl := xin3 (List.mem_of_getElem? (i := 22) rfl) rfl
theorem xw593 : Cond.methodLink RX3 88 yX3_readBleed ∈ xwl := xin3 (List.mem_of_getElem? (i := 24) (by decide +kernel)) rfl
theorem xw595 : Cond.instanceMethod yX3_readBleed ∈ xwl := xin3 (List.mem_of_getElem? (i := 26) (by decide +kernel)) rfl
theorem xw596 : Cond.code yX3_readBleed cX3_readBleed 1 (some .boolean) ∈ xwl := xin3 (List.mem_of_getElem? (i := 27) rfl) rfl
theorem xw597 : Cond.methodLink RX3 91 yX3_kindAtHand ∈ xwl := xin3 (List.mem_of_getElem? (i := 28) (by decide +kernel)) rfl
theorem xw599 : Cond.instanceMethod yX3_kindAtHand ∈ xwl := xin3 (List.mem_of_getElem? (i := 30) (by decide +kernel)) rfl
theorem xw600 : Cond.code yX3_kindAtHand cX3_kindAtHand 2 (some .int) ∈ xwl := xin3 (List.mem_of_getElem? (i := 31) rfl) rfl
theorem xw602 : Cond.static yX10_wordOf ∈ xwl := xin3 (List.mem_of_getElem? (i := 33) (by decide +kernel)) rfl
theorem xw603 : Cond.code yX10_wordOf cX10_wordOf 1 (some (.object "java/lang/String")) ∈ xwl := xin3 (List.mem_of_getElem? (i := 34) rfl) rfl
theorem xw608 : Cond.methodLink RX3 104 yX3_readSides ∈ xwl := xin3 (List.mem_of_getElem? (i := 39) (by decide +kernel)) rfl
theorem xw610 : Cond.instanceMethod yX3_readSides ∈ xwl := xin3 (List.mem_of_getElem? (i := 41) (by decide +kernel)) rfl
theorem xw611 : Cond.code yX3_readSides cX3_readSides 2 (some .boolean) ∈ xwl := xin3 (List.mem_of_getElem? (i := 42) rfl) rfl
theorem xw612 : Cond.methodLink RX3 108 yX3_readEmpty ∈ xwl := xin3 (List.mem_of_getElem? (i := 43) (by decide +kernel)) rfl
theorem xw614 : Cond.instanceMethod yX3_readEmpty ∈ xwl := xin3 (List.mem_of_getElem? (i := 45) (by decide +kernel)) rfl
theorem xw615 : Cond.code yX3_readEmpty cX3_readEmpty 2 (some .boolean) ∈ xwl := xin3 (List.mem_of_getElem? (i := 46) rfl) rfl
theorem xw616 : Cond.methodLink RX3 66 yX7_settle ∈ xwl := xin3 (List.mem_of_getElem? (i := 47) (by decide +kernel)) rfl
theorem xw617 : Cond.instanceMethod yX7_settle ∈ xwl := xin3 (List.mem_of_getElem? (i := 48) (by decide +kernel)) rfl
theorem xw618 : Cond.selects RX7 yX7_settle yX7_settle ∈ xwl := xin3 (List.mem_of_getElem? (i := 49) (by decide +kernel)) rfl
theorem xw619 : Cond.code yX7_settle cX7_settle 2 none ∈ xwl := xin3 (List.mem_of_getElem? (i := 50) rfl) rfl
theorem xw620 : Cond.methodLink RX7 31 yX0_settle ∈ xwl := xin3 (List.mem_of_getElem? (i := 51) (by decide +kernel)) rfl
theorem xw621 : Cond.instanceMethod yX0_settle ∈ xwl := xin3 (List.mem_of_getElem? (i := 52) (by decide +kernel)) rfl
theorem xw622 : Cond.selects RX0 yX0_settle yX0_settle ∈ xwl := xin3 (List.mem_of_getElem? (i := 53) (by decide +kernel)) rfl
theorem xw623 : Cond.code yX0_settle cX0_settle 3 none ∈ xwl := xin3 (List.mem_of_getElem? (i := 54) rfl) rfl
theorem xw624 : Cond.methodLink RL 53 yX10_sheet ∈ xwl := xin3 (List.mem_of_getElem? (i := 55) (by decide +kernel)) rfl
theorem xw625 : Cond.instanceMethod yX10_sheet ∈ xwl := xin3 (List.mem_of_getElem? (i := 56) (by decide +kernel)) rfl
theorem xw626 : Cond.selects RX10 yX10_sheet yX10_sheet ∈ xwl := xin3 (List.mem_of_getElem? (i := 57) (by decide +kernel)) rfl
theorem xw627 : Cond.code yX10_sheet cX10_sheet 3 (some .int) ∈ xwl := xin3 (List.mem_of_getElem? (i := 58) rfl) rfl
theorem xw628 : Cond.methodLink RX10 133 yX3_exchangeDraft ∈ xwl := xin3 (List.mem_of_getElem? (i := 59) (by decide +kernel)) rfl
theorem xw629 : Cond.instanceMethod yX3_exchangeDraft ∈ xwl := xin3 (List.mem_of_getElem? (i := 60) (by decide +kernel)) rfl
theorem xw630 : Cond.selects RX3 yX3_exchangeDraft yX3_exchangeDraft ∈ xwl := xin3 (List.mem_of_getElem? (i := 61) (by decide +kernel)) rfl
theorem xw631 : Cond.code yX3_exchangeDraft cX3_exchangeDraft 3 (some (.object "FrameSheets$Sheet")) ∈ xwl := xin3 (List.mem_of_getElem? (i := 62) rfl) rfl
theorem xw632 : Cond.methodLink RX10 137 yX8_start ∈ xwl := xin3 (List.mem_of_getElem? (i := 63) (by decide +kernel)) rfl
theorem xw633 : Cond.instanceMethod yX8_start ∈ xwl := xin3 (List.mem_of_getElem? (i := 64) (by decide +kernel)) rfl
theorem xw634 : Cond.selects RX8 yX8_start yX8_start ∈ xwl := xin3 (List.mem_of_getElem? (i := 65) (by decide +kernel)) rfl
theorem xw635 : Cond.code yX8_start cX8_start 1 none ∈ xwl := xin3 (List.mem_of_getElem? (i := 66) rfl) rfl
theorem xw636 : Cond.methodLink RX8 26 yX1_liftAll ∈ xwl := xin3 (List.mem_of_getElem? (i := 67) (by decide +kernel)) rfl
theorem xw637 : Cond.instanceMethod yX1_liftAll ∈ xwl := xin3 (List.mem_of_getElem? (i := 68) (by decide +kernel)) rfl
theorem xw638 : Cond.selects RX1 yX1_liftAll yX1_liftAll ∈ xwl := xin3 (List.mem_of_getElem? (i := 69) (by decide +kernel)) rfl
theorem xw639 : Cond.code yX1_liftAll cX1_liftAll 2 none ∈ xwl := xin3 (List.mem_of_getElem? (i := 70) rfl) rfl
theorem xw640 : Cond.methodLink RL 57 yX10_write ∈ xwl := xin3 (List.mem_of_getElem? (i := 71) (by decide +kernel)) rfl
theorem xw641 : Cond.instanceMethod yX10_write ∈ xwl := xin3 (List.mem_of_getElem? (i := 72) (by decide +kernel)) rfl
theorem xw642 : Cond.selects RX10 yX10_write yX10_write ∈ xwl := xin3 (List.mem_of_getElem? (i := 73) (by decide +kernel)) rfl
theorem xw643 : Cond.code yX10_write cX10_write 2 (some .int) ∈ xwl := xin3 (List.mem_of_getElem? (i := 74) rfl) rfl
theorem xw644 : Cond.methodLink RX10 141 yX10_hasNoSheet ∈ xwl := xin3 (List.mem_of_getElem? (i := 75) (by decide +kernel)) rfl
theorem xw646 : Cond.instanceMethod yX10_hasNoSheet ∈ xwl := xin3 (List.mem_of_getElem? (i := 77) (by decide +kernel)) rfl
theorem xw647 : Cond.code yX10_hasNoSheet cX10_hasNoSheet 1 (some .boolean) ∈ xwl := xin3 (List.mem_of_getElem? (i := 78) rfl) rfl
theorem xw648 : Cond.methodLink RX10 144 yX6_writeSheet ∈ xwl := xin3 (List.mem_of_getElem? (i := 79) (by decide +kernel)) rfl
theorem xw649 : Cond.instanceMethod yX6_writeSheet ∈ xwl := xin3 (List.mem_of_getElem? (i := 80) (by decide +kernel)) rfl
theorem xw650 : Cond.selects RX6 yX6_writeSheet yX6_writeSheet ∈ xwl := xin3 (List.mem_of_getElem? (i := 81) (by decide +kernel)) rfl
theorem xw651 : Cond.code yX6_writeSheet cX6_writeSheet 3 none ∈ xwl := xin3 (List.mem_of_getElem? (i := 82) rfl) rfl
theorem xw653 : Cond.methodLink RX6 21 yX6_addWord ∈ xwl := xin3 (List.mem_of_getElem? (i := 84) (by decide +kernel)) rfl
theorem xw655 : Cond.instanceMethod yX6_addWord ∈ xwl := xin3 (List.mem_of_getElem? (i := 86) (by decide +kernel)) rfl
theorem xw656 : Cond.code yX6_addWord cX6_addWord 3 none ∈ xwl := xin3 (List.mem_of_getElem? (i := 87) rfl) rfl
theorem xw657 : Cond.methodLink RX6 80 ⟨"java/lang/String", "length", "()I"⟩ ∈ xwl := xin3 (List.mem_of_getElem? (i := 88) (by decide +kernel)) rfl
theorem xw658 : Cond.methodLink RX6 86 ⟨"java/lang/String", "charAt", "(I)C"⟩ ∈ xwl := xin3 (List.mem_of_getElem? (i := 89) (by decide +kernel)) rfl
theorem xw659 : Cond.methodLink RX6 37 yX6_addSign ∈ xwl := xin3 (List.mem_of_getElem? (i := 90) (by decide +kernel)) rfl
theorem xw661 : Cond.instanceMethod yX6_addSign ∈ xwl := xin3 (List.mem_of_getElem? (i := 92) (by decide +kernel)) rfl
theorem xw662 : Cond.code yX6_addSign cX6_addSign 2 none ∈ xwl := xin3 (List.mem_of_getElem? (i := 93) rfl) rfl
theorem xw663 : Cond.methodLink RX6 30 yX6_addNumber ∈ xwl := xin3 (List.mem_of_getElem? (i := 94) (by decide +kernel)) rfl
theorem xw665 : Cond.instanceMethod yX6_addNumber ∈ xwl := xin3 (List.mem_of_getElem? (i := 96) (by decide +kernel)) rfl
theorem xw666 : Cond.code yX6_addNumber cX6_addNumber 2 none ∈ xwl := xin3 (List.mem_of_getElem? (i := 97) rfl) rfl
theorem xw668 : Cond.methodLink RX6 49 yX6_writeFrame ∈ xwl := xin3 (List.mem_of_getElem? (i := 99) (by decide +kernel)) rfl
theorem xw670 : Cond.instanceMethod yX6_writeFrame ∈ xwl := xin3 (List.mem_of_getElem? (i := 101) (by decide +kernel)) rfl
theorem xw671 : Cond.code yX6_writeFrame cX6_writeFrame 2 none ∈ xwl := xin3 (List.mem_of_getElem? (i := 102) rfl) rfl
theorem xw673 : Cond.methodLink RX10 150 yX9_takeOver ∈ xwl := xin3 (List.mem_of_getElem? (i := 104) (by decide +kernel)) rfl
theorem xw674 : Cond.instanceMethod yX9_takeOver ∈ xwl := xin3 (List.mem_of_getElem? (i := 105) (by decide +kernel)) rfl
theorem xw675 : Cond.selects RX9 yX9_takeOver yX9_takeOver ∈ xwl := xin3 (List.mem_of_getElem? (i := 106) (by decide +kernel)) rfl
theorem xw676 : Cond.code yX9_takeOver cX9_takeOver 3 none ∈ xwl := xin3 (List.mem_of_getElem? (i := 107) rfl) rfl
theorem xw677 : Cond.methodLink RX9 28 ⟨"java/lang/System", "arraycopy", "(Ljava/lang/Object;ILjava/lang/Object;II)V"⟩ ∈ xwl := xin3 (List.mem_of_getElem? (i := 108) (by decide +kernel)) rfl
theorem xw678 : Cond.methodLink RL 61 yX10_frame ∈ xwl := xin3 (List.mem_of_getElem? (i := 109) (by decide +kernel)) rfl
theorem xw679 : Cond.instanceMethod yX10_frame ∈ xwl := xin3 (List.mem_of_getElem? (i := 110) (by decide +kernel)) rfl
theorem xw680 : Cond.selects RX10 yX10_frame yX10_frame ∈ xwl := xin3 (List.mem_of_getElem? (i := 111) (by decide +kernel)) rfl
theorem xw681 : Cond.code yX10_frame cX10_frame 3 (some .int) ∈ xwl := xin3 (List.mem_of_getElem? (i := 112) rfl) rfl
theorem xw682 : Cond.methodLink RX10 158 yX0_part ∈ xwl := xin3 (List.mem_of_getElem? (i := 113) (by decide +kernel)) rfl
theorem xw683 : Cond.instanceMethod yX0_part ∈ xwl := xin3 (List.mem_of_getElem? (i := 114) (by decide +kernel)) rfl
theorem xw684 : Cond.selects RX0 yX0_part yX0_part ∈ xwl := xin3 (List.mem_of_getElem? (i := 115) (by decide +kernel)) rfl
theorem xw685 : Cond.code yX0_part cX0_part 2 (some .int) ∈ xwl := xin3 (List.mem_of_getElem? (i := 116) rfl) rfl
theorem xw686 : Cond.methodLink RX0 52 yX0_needsAcross ∈ xwl := xin3 (List.mem_of_getElem? (i := 117) (by decide +kernel)) rfl
theorem xw687 : Cond.instanceMethod yX0_needsAcross ∈ xwl := xin3 (List.mem_of_getElem? (i := 118) (by decide +kernel)) rfl
theorem xw688 : Cond.selects RX0 yX0_needsAcross yX0_needsAcross ∈ xwl := xin3 (List.mem_of_getElem? (i := 119) (by decide +kernel)) rfl
theorem xw689 : Cond.code yX0_needsAcross cX0_needsAcross 2 (some .int) ∈ xwl := xin3 (List.mem_of_getElem? (i := 120) rfl) rfl
theorem xw690 : Cond.methodLink RX0 56 yX0_needsDown ∈ xwl := xin3 (List.mem_of_getElem? (i := 121) (by decide +kernel)) rfl
theorem xw691 : Cond.instanceMethod yX0_needsDown ∈ xwl := xin3 (List.mem_of_getElem? (i := 122) (by decide +kernel)) rfl
theorem xw692 : Cond.selects RX0 yX0_needsDown yX0_needsDown ∈ xwl := xin3 (List.mem_of_getElem? (i := 123) (by decide +kernel)) rfl
theorem xw693 : Cond.code yX0_needsDown cX0_needsDown 2 (some .int) ∈ xwl := xin3 (List.mem_of_getElem? (i := 124) rfl) rfl
theorem xw694 : Cond.methodLink RL 65 yX10_place ∈ xwl := xin3 (List.mem_of_getElem? (i := 125) (by decide +kernel)) rfl
theorem xw695 : Cond.instanceMethod yX10_place ∈ xwl := xin3 (List.mem_of_getElem? (i := 126) (by decide +kernel)) rfl
theorem xw696 : Cond.selects RX10 yX10_place yX10_place ∈ xwl := xin3 (List.mem_of_getElem? (i := 127) (by decide +kernel)) rfl
theorem xw697 : Cond.code yX10_place cX10_place 3 (some .int) ∈ xwl := xin3 (List.mem_of_getElem? (i := 128) rfl) rfl
theorem xw698 : Cond.methodLink RX10 166 yX1_isSet ∈ xwl := xin3 (List.mem_of_getElem? (i := 129) (by decide +kernel)) rfl
theorem xw699 : Cond.instanceMethod yX1_isSet ∈ xwl := xin3 (List.mem_of_getElem? (i := 130) (by decide +kernel)) rfl
theorem xw700 : Cond.selects RX1 yX1_isSet yX1_isSet ∈ xwl := xin3 (List.mem_of_getElem? (i := 131) (by decide +kernel)) rfl
theorem xw701 : Cond.code yX1_isSet cX1_isSet 2 (some .boolean) ∈ xwl := xin3 (List.mem_of_getElem? (i := 132) rfl) rfl
theorem xw702 : Cond.methodLink RX10 170 yX1_part ∈ xwl := xin3 (List.mem_of_getElem? (i := 133) (by decide +kernel)) rfl
theorem xw703 : Cond.instanceMethod yX1_part ∈ xwl := xin3 (List.mem_of_getElem? (i := 134) (by decide +kernel)) rfl
theorem xw704 : Cond.selects RX1 yX1_part yX1_part ∈ xwl := xin3 (List.mem_of_getElem? (i := 135) (by decide +kernel)) rfl
theorem xw705 : Cond.code yX1_part cX1_part 3 (some .int) ∈ xwl := xin3 (List.mem_of_getElem? (i := 136) rfl) rfl
theorem xw706 : Cond.methodLink RX1 19 yX1_pageOf ∈ xwl := xin3 (List.mem_of_getElem? (i := 137) (by decide +kernel)) rfl
theorem xw707 : Cond.instanceMethod yX1_pageOf ∈ xwl := xin3 (List.mem_of_getElem? (i := 138) (by decide +kernel)) rfl
theorem xw708 : Cond.selects RX1 yX1_pageOf yX1_pageOf ∈ xwl := xin3 (List.mem_of_getElem? (i := 139) (by decide +kernel)) rfl
theorem xw709 : Cond.code yX1_pageOf cX1_pageOf 2 (some .int) ∈ xwl := xin3 (List.mem_of_getElem? (i := 140) rfl) rfl
theorem xw710 : Cond.methodLink RX1 23 yX1_xOf ∈ xwl := xin3 (List.mem_of_getElem? (i := 141) (by decide +kernel)) rfl
theorem xw711 : Cond.instanceMethod yX1_xOf ∈ xwl := xin3 (List.mem_of_getElem? (i := 142) (by decide +kernel)) rfl
theorem xw712 : Cond.selects RX1 yX1_xOf yX1_xOf ∈ xwl := xin3 (List.mem_of_getElem? (i := 143) (by decide +kernel)) rfl
theorem xw713 : Cond.code yX1_xOf cX1_xOf 2 (some .int) ∈ xwl := xin3 (List.mem_of_getElem? (i := 144) rfl) rfl
theorem xw714 : Cond.methodLink RX1 26 yX1_yOf ∈ xwl := xin3 (List.mem_of_getElem? (i := 145) (by decide +kernel)) rfl
theorem xw715 : Cond.instanceMethod yX1_yOf ∈ xwl := xin3 (List.mem_of_getElem? (i := 146) (by decide +kernel)) rfl
theorem xw716 : Cond.selects RX1 yX1_yOf yX1_yOf ∈ xwl := xin3 (List.mem_of_getElem? (i := 147) (by decide +kernel)) rfl
theorem xw717 : Cond.code yX1_yOf cX1_yOf 2 (some .int) ∈ xwl := xin3 (List.mem_of_getElem? (i := 148) rfl) rfl
theorem xw718 : Cond.methodLink RX1 29 yX1_isTurned ∈ xwl := xin3 (List.mem_of_getElem? (i := 149) (by decide +kernel)) rfl
theorem xw719 : Cond.instanceMethod yX1_isTurned ∈ xwl := xin3 (List.mem_of_getElem? (i := 150) (by decide +kernel)) rfl
theorem xw720 : Cond.selects RX1 yX1_isTurned yX1_isTurned ∈ xwl := xin3 (List.mem_of_getElem? (i := 151) (by decide +kernel)) rfl
theorem xw721 : Cond.code yX1_isTurned cX1_isTurned 2 (some .boolean) ∈ xwl := xin3 (List.mem_of_getElem? (i := 152) rfl) rfl
theorem xw722 : Cond.methodLink RL 69 yX10_mark ∈ xwl := xin3 (List.mem_of_getElem? (i := 153) (by decide +kernel)) rfl
theorem xw723 : Cond.instanceMethod yX10_mark ∈ xwl := xin3 (List.mem_of_getElem? (i := 154) (by decide +kernel)) rfl
theorem xw724 : Cond.selects RX10 yX10_mark yX10_mark ∈ xwl := xin3 (List.mem_of_getElem? (i := 155) (by decide +kernel)) rfl
theorem xw725 : Cond.code yX10_mark cX10_mark 4 (some .int) ∈ xwl := xin3 (List.mem_of_getElem? (i := 156) rfl) rfl
theorem xw726 : Cond.methodLink RX10 173 yX0_isOf ∈ xwl := xin3 (List.mem_of_getElem? (i := 157) (by decide +kernel)) rfl
theorem xw727 : Cond.instanceMethod yX0_isOf ∈ xwl := xin3 (List.mem_of_getElem? (i := 158) (by decide +kernel)) rfl
theorem xw728 : Cond.selects RX0 yX0_isOf yX0_isOf ∈ xwl := xin3 (List.mem_of_getElem? (i := 159) (by decide +kernel)) rfl
theorem xw729 : Cond.code yX0_isOf cX0_isOf 2 (some .boolean) ∈ xwl := xin3 (List.mem_of_getElem? (i := 160) rfl) rfl
theorem xw730 : Cond.methodLink RX10 182 ⟨"java/lang/Math", "abs", "(I)I"⟩ ∈ xwl := xin3 (List.mem_of_getElem? (i := 161) (by decide +kernel)) rfl
theorem xw731 : Cond.static ⟨"java/lang/Math", "abs", "(I)I"⟩ ∈ xwl := xin3 (List.mem_of_getElem? (i := 162) (by decide +kernel)) rfl
theorem xw732 : Cond.code ⟨"java/lang/Math", "abs", "(I)I"⟩ prog_14_method_59_code 1 (some .int) ∈ xwl := xin3 (List.mem_of_getElem? (i := 163) rfl) rfl
theorem xw733 : Cond.methodLink RX10 187 yX0_edgePlaces ∈ xwl := xin3 (List.mem_of_getElem? (i := 164) (by decide +kernel)) rfl
theorem xw734 : Cond.instanceMethod yX0_edgePlaces ∈ xwl := xin3 (List.mem_of_getElem? (i := 165) (by decide +kernel)) rfl
theorem xw735 : Cond.selects RX0 yX0_edgePlaces yX0_edgePlaces ∈ xwl := xin3 (List.mem_of_getElem? (i := 166) (by decide +kernel)) rfl
theorem xw736 : Cond.code yX0_edgePlaces cX0_edgePlaces 1 (some .int) ∈ xwl := xin3 (List.mem_of_getElem? (i := 167) rfl) rfl
theorem xw737 : Cond.methodLink RX0 59 yX0_needsPlaces ∈ xwl := xin3 (List.mem_of_getElem? (i := 168) (by decide +kernel)) rfl
theorem xw738 : Cond.instanceMethod yX0_needsPlaces ∈ xwl := xin3 (List.mem_of_getElem? (i := 169) (by decide +kernel)) rfl
theorem xw739 : Cond.selects RX0 yX0_needsPlaces yX0_needsPlaces ∈ xwl := xin3 (List.mem_of_getElem? (i := 170) (by decide +kernel)) rfl
theorem xw740 : Cond.code yX0_needsPlaces cX0_needsPlaces 1 (some .int) ∈ xwl := xin3 (List.mem_of_getElem? (i := 171) rfl) rfl
theorem xw741 : Cond.methodLink RX10 191 yX0_emptyPoints ∈ xwl := xin3 (List.mem_of_getElem? (i := 172) (by decide +kernel)) rfl
theorem xw742 : Cond.instanceMethod yX0_emptyPoints ∈ xwl := xin3 (List.mem_of_getElem? (i := 173) (by decide +kernel)) rfl
theorem xw743 : Cond.selects RX0 yX0_emptyPoints yX0_emptyPoints ∈ xwl := xin3 (List.mem_of_getElem? (i := 174) (by decide +kernel)) rfl
theorem xw744 : Cond.code yX0_emptyPoints cX0_emptyPoints 1 (some .int) ∈ xwl := xin3 (List.mem_of_getElem? (i := 175) rfl) rfl
theorem xw745 : Cond.methodLink RL 73 yX10_set ∈ xwl := xin3 (List.mem_of_getElem? (i := 176) (by decide +kernel)) rfl
theorem xw746 : Cond.instanceMethod yX10_set ∈ xwl := xin3 (List.mem_of_getElem? (i := 177) (by decide +kernel)) rfl
theorem xw747 : Cond.selects RX10 yX10_set yX10_set ∈ xwl := xin3 (List.mem_of_getElem? (i := 178) (by decide +kernel)) rfl
theorem xw748 : Cond.code yX10_set cX10_set 3 (some .int) ∈ xwl := xin3 (List.mem_of_getElem? (i := 179) rfl) rfl
theorem xw749 : Cond.methodLink RX10 194 yX2_spotFor ∈ xwl := xin3 (List.mem_of_getElem? (i := 180) (by decide +kernel)) rfl
theorem xw750 : Cond.instanceMethod yX2_spotFor ∈ xwl := xin3 (List.mem_of_getElem? (i := 181) (by decide +kernel)) rfl
theorem xw751 : Cond.selects RX2 yX2_spotFor yX2_spotFor ∈ xwl := xin3 (List.mem_of_getElem? (i := 182) (by decide +kernel)) rfl
theorem xw752 : Cond.code yX2_spotFor cX2_spotFor 7 (some .int) ∈ xwl := xin3 (List.mem_of_getElem? (i := 183) rfl) rfl
theorem xw753 : Cond.methodLink RX2 22 yX1_pages ∈ xwl := xin3 (List.mem_of_getElem? (i := 184) (by decide +kernel)) rfl
theorem xw754 : Cond.instanceMethod yX1_pages ∈ xwl := xin3 (List.mem_of_getElem? (i := 185) (by decide +kernel)) rfl
theorem xw755 : Cond.selects RX1 yX1_pages yX1_pages ∈ xwl := xin3 (List.mem_of_getElem? (i := 186) (by decide +kernel)) rfl
theorem xw756 : Cond.code yX1_pages cX1_pages 3 (some .int) ∈ xwl := xin3 (List.mem_of_getElem? (i := 187) rfl) rfl
theorem xw757 : Cond.methodLink RX1 33 yX1_isSet ∈ xwl := xin3 (List.mem_of_getElem? (i := 188) (by decide +kernel)) rfl
theorem xw758 : Cond.methodLink RX1 36 ⟨"java/lang/Math", "max", "(II)I"⟩ ∈ xwl := xin3 (List.mem_of_getElem? (i := 189) (by decide +kernel)) rfl
theorem xw759 : Cond.methodLink RX2 28 yX4_look ∈ xwl := xin3 (List.mem_of_getElem? (i := 190) (by decide +kernel)) rfl
theorem xw760 : Cond.instanceMethod yX4_look ∈ xwl := xin3 (List.mem_of_getElem? (i := 191) (by decide +kernel)) rfl
theorem xw761 : Cond.selects RX4 yX4_look yX4_look ∈ xwl := xin3 (List.mem_of_getElem? (i := 192) (by decide +kernel)) rfl
theorem xw762 : Cond.code yX4_look cX4_look 5 none ∈ xwl := xin3 (List.mem_of_getElem? (i := 193) rfl) rfl
theorem xw763 : Cond.methodLink RX4 31 ⟨"java/lang/Math", "min", "(II)I"⟩ ∈ xwl := xin3 (List.mem_of_getElem? (i := 194) (by decide +kernel)) rfl
theorem xw764 : Cond.methodLink RX4 39 yX1_isSet ∈ xwl := xin3 (List.mem_of_getElem? (i := 195) (by decide +kernel)) rfl
theorem xw765 : Cond.methodLink RX4 45 yX1_pageOf ∈ xwl := xin3 (List.mem_of_getElem? (i := 196) (by decide +kernel)) rfl
theorem xw766 : Cond.methodLink RX4 53 yX4_cover ∈ xwl := xin3 (List.mem_of_getElem? (i := 197) (by decide +kernel)) rfl
theorem xw768 : Cond.instanceMethod yX4_cover ∈ xwl := xin3 (List.mem_of_getElem? (i := 199) (by decide +kernel)) rfl
theorem xw769 : Cond.code yX4_cover cX4_cover 9 none ∈ xwl := xin3 (List.mem_of_getElem? (i := 200) rfl) rfl
theorem xw770 : Cond.methodLink RX4 60 yX1_isTurned ∈ xwl := xin3 (List.mem_of_getElem? (i := 201) (by decide +kernel)) rfl
theorem xw771 : Cond.methodLink RX4 63 yX1_xOf ∈ xwl := xin3 (List.mem_of_getElem? (i := 202) (by decide +kernel)) rfl
theorem xw772 : Cond.methodLink RX4 66 yX0_needsAcross ∈ xwl := xin3 (List.mem_of_getElem? (i := 203) (by decide +kernel)) rfl
theorem xw773 : Cond.methodLink RX4 72 yX4_span ∈ xwl := xin3 (List.mem_of_getElem? (i := 204) (by decide +kernel)) rfl
theorem xw774 : Cond.static yX4_span ∈ xwl := xin3 (List.mem_of_getElem? (i := 205) (by decide +kernel)) rfl
theorem xw775 : Cond.code yX4_span cX4_span 2 (some .int) ∈ xwl := xin3 (List.mem_of_getElem? (i := 206) rfl) rfl
theorem xw776 : Cond.methodLink RX4 75 yX1_yOf ∈ xwl := xin3 (List.mem_of_getElem? (i := 207) (by decide +kernel)) rfl
theorem xw777 : Cond.methodLink RX4 78 yX0_needsDown ∈ xwl := xin3 (List.mem_of_getElem? (i := 208) (by decide +kernel)) rfl
theorem xw778 : Cond.methodLink RX4 57 yX4_findFree ∈ xwl := xin3 (List.mem_of_getElem? (i := 209) (by decide +kernel)) rfl
theorem xw780 : Cond.instanceMethod yX4_findFree ∈ xwl := xin3 (List.mem_of_getElem? (i := 211) (by decide +kernel)) rfl
theorem xw781 : Cond.code yX4_findFree cX4_findFree 7 none ∈ xwl := xin3 (List.mem_of_getElem? (i := 212) rfl) rfl
theorem xw782 : Cond.methodLink RX4 81 yX4_addRuns ∈ xwl := xin3 (List.mem_of_getElem? (i := 213) (by decide +kernel)) rfl
theorem xw784 : Cond.instanceMethod yX4_addRuns ∈ xwl := xin3 (List.mem_of_getElem? (i := 215) (by decide +kernel)) rfl
theorem xw785 : Cond.code yX4_addRuns cX4_addRuns 9 none ∈ xwl := xin3 (List.mem_of_getElem? (i := 216) rfl) rfl
theorem xw786 : Cond.methodLink RX4 85 yX4_insert ∈ xwl := xin3 (List.mem_of_getElem? (i := 217) (by decide +kernel)) rfl
theorem xw788 : Cond.instanceMethod yX4_insert ∈ xwl := xin3 (List.mem_of_getElem? (i := 219) (by decide +kernel)) rfl
theorem xw789 : Cond.code yX4_insert cX4_insert 3 none ∈ xwl := xin3 (List.mem_of_getElem? (i := 220) rfl) rfl
theorem xw790 : Cond.methodLink RX2 42 yX4_bestSpot ∈ xwl := xin3 (List.mem_of_getElem? (i := 221) (by decide +kernel)) rfl
theorem xw791 : Cond.instanceMethod yX4_bestSpot ∈ xwl := xin3 (List.mem_of_getElem? (i := 222) (by decide +kernel)) rfl
theorem xw792 : Cond.selects RX4 yX4_bestSpot yX4_bestSpot ∈ xwl := xin3 (List.mem_of_getElem? (i := 223) (by decide +kernel)) rfl
theorem xw793 : Cond.code yX4_bestSpot cX4_bestSpot 12 (some .int) ∈ xwl := xin3 (List.mem_of_getElem? (i := 224) rfl) rfl
theorem xw794 : Cond.methodLink RX4 101 yX0_mayTurn ∈ xwl := xin3 (List.mem_of_getElem? (i := 225) (by decide +kernel)) rfl
theorem xw795 : Cond.instanceMethod yX0_mayTurn ∈ xwl := xin3 (List.mem_of_getElem? (i := 226) (by decide +kernel)) rfl
theorem xw796 : Cond.selects RX0 yX0_mayTurn yX0_mayTurn ∈ xwl := xin3 (List.mem_of_getElem? (i := 227) (by decide +kernel)) rfl
theorem xw797 : Cond.code yX0_mayTurn cX0_mayTurn 1 (some .boolean) ∈ xwl := xin3 (List.mem_of_getElem? (i := 228) rfl) rfl
theorem xw798 : Cond.methodLink RX0 48 yX0_isOf ∈ xwl := xin3 (List.mem_of_getElem? (i := 229) (by decide +kernel)) rfl
theorem xw799 : Cond.methodLink RX4 91 yX4_acrossOf ∈ xwl := xin3 (List.mem_of_getElem? (i := 230) (by decide +kernel)) rfl
theorem xw800 : Cond.static yX4_acrossOf ∈ xwl := xin3 (List.mem_of_getElem? (i := 231) (by decide +kernel)) rfl
theorem xw801 : Cond.code yX4_acrossOf cX4_acrossOf 1 (some .int) ∈ xwl := xin3 (List.mem_of_getElem? (i := 232) rfl) rfl
theorem xw802 : Cond.methodLink RX4 94 yX4_downOf ∈ xwl := xin3 (List.mem_of_getElem? (i := 233) (by decide +kernel)) rfl
theorem xw803 : Cond.static yX4_downOf ∈ xwl := xin3 (List.mem_of_getElem? (i := 234) (by decide +kernel)) rfl
theorem xw804 : Cond.code yX4_downOf cX4_downOf 1 (some .int) ∈ xwl := xin3 (List.mem_of_getElem? (i := 235) rfl) rfl
theorem xw805 : Cond.methodLink RX4 105 yX4_numbersOf ∈ xwl := xin3 (List.mem_of_getElem? (i := 236) (by decide +kernel)) rfl
theorem xw806 : Cond.static yX4_numbersOf ∈ xwl := xin3 (List.mem_of_getElem? (i := 237) (by decide +kernel)) rfl
theorem xw807 : Cond.code yX4_numbersOf cX4_numbersOf 9 (some .int) ∈ xwl := xin3 (List.mem_of_getElem? (i := 238) rfl) rfl
theorem xw808 : Cond.methodLink RX4 98 ⟨"java/lang/Math", "max", "(II)I"⟩ ∈ xwl := xin3 (List.mem_of_getElem? (i := 239) (by decide +kernel)) rfl
theorem xw809 : Cond.methodLink RX4 90 yX4_yOf ∈ xwl := xin4 (List.mem_of_getElem? (i := 0) (by decide +kernel)) rfl
theorem xw810 : Cond.static yX4_yOf ∈ xwl := xin4 (List.mem_of_getElem? (i := 1) (by decide +kernel)) rfl
theorem xw811 : Cond.code yX4_yOf cX4_yOf 1 (some .int) ∈ xwl := xin4 (List.mem_of_getElem? (i := 2) rfl) rfl
theorem xw812 : Cond.constant RX4 97 (32768) ∈ xwl := xin4 (List.mem_of_getElem? (i := 3) (by decide +kernel)) rfl
theorem xw813 : Cond.methodLink RX4 89 yX4_xOf ∈ xwl := xin4 (List.mem_of_getElem? (i := 4) (by decide +kernel)) rfl
theorem xw814 : Cond.static yX4_xOf ∈ xwl := xin4 (List.mem_of_getElem? (i := 5) (by decide +kernel)) rfl
theorem xw815 : Cond.code yX4_xOf cX4_xOf 1 (some .int) ∈ xwl := xin4 (List.mem_of_getElem? (i := 6) rfl) rfl
theorem xw816 : Cond.methodLink RX4 109 yX1_spotAt ∈ xwl := xin4 (List.mem_of_getElem? (i := 7) (by decide +kernel)) rfl
theorem xw817 : Cond.static yX1_spotAt ∈ xwl := xin4 (List.mem_of_getElem? (i := 8) (by decide +kernel)) rfl
theorem xw818 : Cond.code yX1_spotAt cX1_spotAt 3 (some .int) ∈ xwl := xin4 (List.mem_of_getElem? (i := 9) rfl) rfl
theorem xw819 : Cond.methodLink RX2 46 yX1_spotOnPage ∈ xwl := xin4 (List.mem_of_getElem? (i := 10) (by decide +kernel)) rfl
theorem xw820 : Cond.static yX1_spotOnPage ∈ xwl := xin4 (List.mem_of_getElem? (i := 11) (by decide +kernel)) rfl
theorem xw821 : Cond.code yX1_spotOnPage cX1_spotOnPage 2 (some .int) ∈ xwl := xin4 (List.mem_of_getElem? (i := 12) rfl) rfl
theorem xw822 : Cond.methodLink RX10 198 yX8_isFull ∈ xwl := xin4 (List.mem_of_getElem? (i := 13) (by decide +kernel)) rfl
theorem xw823 : Cond.instanceMethod yX8_isFull ∈ xwl := xin4 (List.mem_of_getElem? (i := 14) (by decide +kernel)) rfl
theorem xw824 : Cond.selects RX8 yX8_isFull yX8_isFull ∈ xwl := xin4 (List.mem_of_getElem? (i := 15) (by decide +kernel)) rfl
theorem xw825 : Cond.code yX8_isFull cX8_isFull 1 (some .boolean) ∈ xwl := xin4 (List.mem_of_getElem? (i := 16) rfl) rfl
theorem xw826 : Cond.methodLink RX10 201 yX8_beginDeed ∈ xwl := xin4 (List.mem_of_getElem? (i := 17) (by decide +kernel)) rfl
theorem xw827 : Cond.instanceMethod yX8_beginDeed ∈ xwl := xin4 (List.mem_of_getElem? (i := 18) (by decide +kernel)) rfl
theorem xw828 : Cond.selects RX8 yX8_beginDeed yX8_beginDeed ∈ xwl := xin4 (List.mem_of_getElem? (i := 19) (by decide +kernel)) rfl
theorem xw829 : Cond.code yX8_beginDeed cX8_beginDeed 2 none ∈ xwl := xin4 (List.mem_of_getElem? (i := 20) rfl) rfl
theorem xw830 : Cond.methodLink RX8 32 yX8_isFull ∈ xwl := xin4 (List.mem_of_getElem? (i := 21) (by decide +kernel)) rfl
theorem xw831 : Cond.methodLink RX8 39 ⟨"java/lang/System", "arraycopy", "(Ljava/lang/Object;ILjava/lang/Object;II)V"⟩ ∈ xwl := xin4 (List.mem_of_getElem? (i := 22) (by decide +kernel)) rfl
theorem xw832 : Cond.methodLink RX10 207 yX1_pageOf ∈ xwl := xin4 (List.mem_of_getElem? (i := 23) (by decide +kernel)) rfl
theorem xw833 : Cond.methodLink RL 77 yX10_lift ∈ xwl := xin4 (List.mem_of_getElem? (i := 24) (by decide +kernel)) rfl
theorem xw834 : Cond.instanceMethod yX10_lift ∈ xwl := xin4 (List.mem_of_getElem? (i := 25) (by decide +kernel)) rfl
theorem xw835 : Cond.selects RX10 yX10_lift yX10_lift ∈ xwl := xin4 (List.mem_of_getElem? (i := 26) (by decide +kernel)) rfl
theorem xw836 : Cond.code yX10_lift cX10_lift 2 (some .int) ∈ xwl := xin4 (List.mem_of_getElem? (i := 27) rfl) rfl
theorem xw837 : Cond.methodLink RX10 210 yX1_pages ∈ xwl := xin4 (List.mem_of_getElem? (i := 28) (by decide +kernel)) rfl
theorem xw838 : Cond.methodLink RL 81 yX10_all ∈ xwl := xin4 (List.mem_of_getElem? (i := 29) (by decide +kernel)) rfl
theorem xw839 : Cond.instanceMethod yX10_all ∈ xwl := xin4 (List.mem_of_getElem? (i := 30) (by decide +kernel)) rfl
theorem xw840 : Cond.selects RX10 yX10_all yX10_all ∈ xwl := xin4 (List.mem_of_getElem? (i := 31) (by decide +kernel)) rfl
theorem xw841 : Cond.code yX10_all cX10_all 2 (some .int) ∈ xwl := xin4 (List.mem_of_getElem? (i := 32) rfl) rfl
theorem xw842 : Cond.methodLink RX10 213 yX2_setAllAnew ∈ xwl := xin4 (List.mem_of_getElem? (i := 33) (by decide +kernel)) rfl
theorem xw843 : Cond.instanceMethod yX2_setAllAnew ∈ xwl := xin4 (List.mem_of_getElem? (i := 34) (by decide +kernel)) rfl
theorem xw844 : Cond.selects RX2 yX2_setAllAnew yX2_setAllAnew ∈ xwl := xin4 (List.mem_of_getElem? (i := 35) (by decide +kernel)) rfl
theorem xw845 : Cond.code yX2_setAllAnew cX2_setAllAnew 5 none ∈ xwl := xin4 (List.mem_of_getElem? (i := 36) rfl) rfl
theorem xw846 : Cond.methodLink RX2 50 yX1_liftAll ∈ xwl := xin4 (List.mem_of_getElem? (i := 37) (by decide +kernel)) rfl
theorem xw847 : Cond.methodLink RX2 53 yX2_fillQueue ∈ xwl := xin4 (List.mem_of_getElem? (i := 38) (by decide +kernel)) rfl
theorem xw849 : Cond.instanceMethod yX2_fillQueue ∈ xwl := xin4 (List.mem_of_getElem? (i := 40) (by decide +kernel)) rfl
theorem xw850 : Cond.code yX2_fillQueue cX2_fillQueue 6 none ∈ xwl := xin4 (List.mem_of_getElem? (i := 41) rfl) rfl
theorem xw851 : Cond.methodLink RX2 67 yX2_weightOf ∈ xwl := xin4 (List.mem_of_getElem? (i := 42) (by decide +kernel)) rfl
theorem xw852 : Cond.static yX2_weightOf ∈ xwl := xin4 (List.mem_of_getElem? (i := 43) (by decide +kernel)) rfl
theorem xw853 : Cond.code yX2_weightOf cX2_weightOf 2 (some .int) ∈ xwl := xin4 (List.mem_of_getElem? (i := 44) rfl) rfl
theorem xw854 : Cond.methodLink RX2 70 yX0_needsPlaces ∈ xwl := xin4 (List.mem_of_getElem? (i := 45) (by decide +kernel)) rfl
theorem xw855 : Cond.methodLink RX2 75 yX0_needsAcross ∈ xwl := xin4 (List.mem_of_getElem? (i := 46) (by decide +kernel)) rfl
theorem xw856 : Cond.methodLink RX2 79 yX0_needsDown ∈ xwl := xin4 (List.mem_of_getElem? (i := 47) (by decide +kernel)) rfl
theorem xw857 : Cond.methodLink RX2 82 ⟨"java/lang/Math", "max", "(II)I"⟩ ∈ xwl := xin4 (List.mem_of_getElem? (i := 48) (by decide +kernel)) rfl
theorem xw858 : Cond.methodLink RX2 63 yX2_spotFor ∈ xwl := xin4 (List.mem_of_getElem? (i := 49) (by decide +kernel)) rfl
theorem xw859 : Cond.methodLink RL 85 yX10_rule ∈ xwl := xin4 (List.mem_of_getElem? (i := 50) (by decide +kernel)) rfl
theorem xw860 : Cond.instanceMethod yX10_rule ∈ xwl := xin4 (List.mem_of_getElem? (i := 51) (by decide +kernel)) rfl
theorem xw861 : Cond.selects RX10 yX10_rule yX10_rule ∈ xwl := xin4 (List.mem_of_getElem? (i := 52) (by decide +kernel)) rfl
theorem xw862 : Cond.code yX10_rule cX10_rule 3 (some .int) ∈ xwl := xin4 (List.mem_of_getElem? (i := 53) rfl) rfl
theorem xw863 : Cond.methodLink RL 89 yX10_undo ∈ xwl := xin4 (List.mem_of_getElem? (i := 54) (by decide +kernel)) rfl
theorem xw864 : Cond.instanceMethod yX10_undo ∈ xwl := xin4 (List.mem_of_getElem? (i := 55) (by decide +kernel)) rfl
theorem xw865 : Cond.selects RX10 yX10_undo yX10_undo ∈ xwl := xin4 (List.mem_of_getElem? (i := 56) (by decide +kernel)) rfl
theorem xw866 : Cond.code yX10_undo cX10_undo 3 (some .int) ∈ xwl := xin4 (List.mem_of_getElem? (i := 57) rfl) rfl
theorem xw867 : Cond.methodLink RX10 223 yX8_goBackTo ∈ xwl := xin4 (List.mem_of_getElem? (i := 58) (by decide +kernel)) rfl
theorem xw868 : Cond.instanceMethod yX8_goBackTo ∈ xwl := xin4 (List.mem_of_getElem? (i := 59) (by decide +kernel)) rfl
theorem xw869 : Cond.selects RX8 yX8_goBackTo yX8_goBackTo ∈ xwl := xin4 (List.mem_of_getElem? (i := 60) (by decide +kernel)) rfl
theorem xw870 : Cond.code yX8_goBackTo cX8_goBackTo 3 none ∈ xwl := xin4 (List.mem_of_getElem? (i := 61) rfl) rfl
theorem xw871 : Cond.methodLink RL 93 yX10_keep ∈ xwl := xin4 (List.mem_of_getElem? (i := 62) (by decide +kernel)) rfl
theorem xw872 : Cond.instanceMethod yX10_keep ∈ xwl := xin4 (List.mem_of_getElem? (i := 63) (by decide +kernel)) rfl
theorem xw873 : Cond.selects RX10 yX10_keep yX10_keep ∈ xwl := xin4 (List.mem_of_getElem? (i := 64) (by decide +kernel)) rfl
theorem xw874 : Cond.code yX10_keep cX10_keep 2 (some .int) ∈ xwl := xin4 (List.mem_of_getElem? (i := 65) rfl) rfl
theorem xw875 : Cond.methodLink RX10 226 yX8_takeOver ∈ xwl := xin4 (List.mem_of_getElem? (i := 66) (by decide +kernel)) rfl
theorem xw876 : Cond.instanceMethod yX8_takeOver ∈ xwl := xin4 (List.mem_of_getElem? (i := 67) (by decide +kernel)) rfl
theorem xw877 : Cond.selects RX8 yX8_takeOver yX8_takeOver ∈ xwl := xin4 (List.mem_of_getElem? (i := 68) (by decide +kernel)) rfl
theorem xw878 : Cond.code yX8_takeOver cX8_takeOver 2 none ∈ xwl := xin4 (List.mem_of_getElem? (i := 69) rfl) rfl
theorem xw879 : Cond.methodLink RL 97 yX10_on ∈ xwl := xin4 (List.mem_of_getElem? (i := 70) (by decide +kernel)) rfl
theorem xw880 : Cond.instanceMethod yX10_on ∈ xwl := xin4 (List.mem_of_getElem? (i := 71) (by decide +kernel)) rfl
theorem xw881 : Cond.selects RX10 yX10_on yX10_on ∈ xwl := xin4 (List.mem_of_getElem? (i := 72) (by decide +kernel)) rfl
theorem xw882 : Cond.code yX10_on cX10_on 2 (some .int) ∈ xwl := xin4 (List.mem_of_getElem? (i := 73) rfl) rfl
theorem xw883 : Cond.methodLink RL 101 yX10_free ∈ xwl := xin4 (List.mem_of_getElem? (i := 74) (by decide +kernel)) rfl
theorem xw884 : Cond.instanceMethod yX10_free ∈ xwl := xin4 (List.mem_of_getElem? (i := 75) (by decide +kernel)) rfl
theorem xw885 : Cond.selects RX10 yX10_free yX10_free ∈ xwl := xin4 (List.mem_of_getElem? (i := 76) (by decide +kernel)) rfl
theorem xw886 : Cond.code yX10_free cX10_free 5 (some .int) ∈ xwl := xin4 (List.mem_of_getElem? (i := 77) rfl) rfl
theorem xw887 : Cond.methodLink RX10 229 yX10_isPage ∈ xwl := xin4 (List.mem_of_getElem? (i := 78) (by decide +kernel)) rfl
theorem xw889 : Cond.instanceMethod yX10_isPage ∈ xwl := xin4 (List.mem_of_getElem? (i := 80) (by decide +kernel)) rfl
theorem xw890 : Cond.code yX10_isPage cX10_isPage 2 (some .boolean) ∈ xwl := xin4 (List.mem_of_getElem? (i := 81) rfl) rfl
theorem xw891 : Cond.methodLink RX10 236 yX4_look ∈ xwl := xin4 (List.mem_of_getElem? (i := 82) (by decide +kernel)) rfl
theorem xw892 : Cond.methodLink RX10 242 yX4_part ∈ xwl := xin4 (List.mem_of_getElem? (i := 83) (by decide +kernel)) rfl
theorem xw893 : Cond.instanceMethod yX4_part ∈ xwl := xin4 (List.mem_of_getElem? (i := 84) (by decide +kernel)) rfl
theorem xw894 : Cond.selects RX4 yX4_part yX4_part ∈ xwl := xin4 (List.mem_of_getElem? (i := 85) (by decide +kernel)) rfl
theorem xw895 : Cond.code yX4_part cX4_part 3 (some .int) ∈ xwl := xin4 (List.mem_of_getElem? (i := 86) rfl) rfl
theorem xw896 : Cond.methodLink RL 105 yX10_seen ∈ xwl := xin4 (List.mem_of_getElem? (i := 87) (by decide +kernel)) rfl
theorem xw897 : Cond.instanceMethod yX10_seen ∈ xwl := xin4 (List.mem_of_getElem? (i := 88) (by decide +kernel)) rfl
theorem xw898 : Cond.selects RX10 yX10_seen yX10_seen ∈ xwl := xin4 (List.mem_of_getElem? (i := 89) (by decide +kernel)) rfl
theorem xw899 : Cond.code yX10_seen cX10_seen 5 (some .int) ∈ xwl := xin4 (List.mem_of_getElem? (i := 90) rfl) rfl
theorem xw900 : Cond.methodLink RX10 249 yX10_takesPlace ∈ xwl := xin4 (List.mem_of_getElem? (i := 91) (by decide +kernel)) rfl
theorem xw902 : Cond.instanceMethod yX10_takesPlace ∈ xwl := xin4 (List.mem_of_getElem? (i := 93) (by decide +kernel)) rfl
theorem xw903 : Cond.code yX10_takesPlace cX10_takesPlace 8 (some .boolean) ∈ xwl := xin4 (List.mem_of_getElem? (i := 94) rfl) rfl
theorem xw904 : Cond.methodLink RX10 269 yX1_isTurned ∈ xwl := xin4 (List.mem_of_getElem? (i := 95) (by decide +kernel)) rfl
theorem xw905 : Cond.methodLink RX10 272 yX1_xOf ∈ xwl := xin4 (List.mem_of_getElem? (i := 96) (by decide +kernel)) rfl
theorem xw906 : Cond.methodLink RX10 339 yX0_needsAcross ∈ xwl := xin4 (List.mem_of_getElem? (i := 97) (by decide +kernel)) rfl
theorem xw907 : Cond.methodLink RX10 278 yX1_yOf ∈ xwl := xin4 (List.mem_of_getElem? (i := 98) (by decide +kernel)) rfl
theorem xw908 : Cond.methodLink RX10 343 yX0_needsDown ∈ xwl := xin4 (List.mem_of_getElem? (i := 99) (by decide +kernel)) rfl
theorem xw909 : Cond.methodLink RX10 253 yX10_pointSeen ∈ xwl := xin4 (List.mem_of_getElem? (i := 100) (by decide +kernel)) rfl
theorem xw911 : Cond.instanceMethod yX10_pointSeen ∈ xwl := xin4 (List.mem_of_getElem? (i := 102) (by decide +kernel)) rfl
theorem xw912 : Cond.code yX10_pointSeen cX10_pointSeen 11 (some .int) ∈ xwl := xin4 (List.mem_of_getElem? (i := 103) rfl) rfl
theorem xw913 : Cond.methodLink RX10 346 yX10_nearest ∈ xwl := xin4 (List.mem_of_getElem? (i := 104) (by decide +kernel)) rfl
theorem xw914 : Cond.static yX10_nearest ∈ xwl := xin4 (List.mem_of_getElem? (i := 105) (by decide +kernel)) rfl
theorem xw915 : Cond.code yX10_nearest cX10_nearest 2 (some .int) ∈ xwl := xin4 (List.mem_of_getElem? (i := 106) rfl) rfl
theorem xw916 : Cond.methodLink RX10 349 ⟨"java/lang/Math", "min", "(II)I"⟩ ∈ xwl := xin4 (List.mem_of_getElem? (i := 107) (by decide +kernel)) rfl
theorem xw917 : Cond.methodLink RX10 352 ⟨"java/lang/Math", "max", "(II)I"⟩ ∈ xwl := xin4 (List.mem_of_getElem? (i := 108) (by decide +kernel)) rfl
theorem xw918 : Cond.methodLink RL 109 yX10_point ∈ xwl := xin4 (List.mem_of_getElem? (i := 109) (by decide +kernel)) rfl
theorem xw919 : Cond.instanceMethod yX10_point ∈ xwl := xin4 (List.mem_of_getElem? (i := 110) (by decide +kernel)) rfl
theorem xw920 : Cond.selects RX10 yX10_point yX10_point ∈ xwl := xin4 (List.mem_of_getElem? (i := 111) (by decide +kernel)) rfl
theorem xw921 : Cond.code yX10_point cX10_point 11 (some .int) ∈ xwl := xin4 (List.mem_of_getElem? (i := 112) rfl) rfl
theorem xw922 : Cond.methodLink RL 113 yX10_used ∈ xwl := xin4 (List.mem_of_getElem? (i := 113) (by decide +kernel)) rfl
theorem xw923 : Cond.instanceMethod yX10_used ∈ xwl := xin4 (List.mem_of_getElem? (i := 114) (by decide +kernel)) rfl
theorem xw924 : Cond.selects RX10 yX10_used yX10_used ∈ xwl := xin4 (List.mem_of_getElem? (i := 115) (by decide +kernel)) rfl
theorem xw925 : Cond.code yX10_used cX10_used 4 (some .int) ∈ xwl := xin4 (List.mem_of_getElem? (i := 116) rfl) rfl
theorem xw926 : Cond.methodLink RX10 281 yX7_placesTaken ∈ xwl := xin4 (List.mem_of_getElem? (i := 117) (by decide +kernel)) rfl
theorem xw927 : Cond.instanceMethod yX7_placesTaken ∈ xwl := xin4 (List.mem_of_getElem? (i := 118) (by decide +kernel)) rfl
theorem xw928 : Cond.selects RX7 yX7_placesTaken yX7_placesTaken ∈ xwl := xin4 (List.mem_of_getElem? (i := 119) (by decide +kernel)) rfl
theorem xw929 : Cond.code yX7_placesTaken cX7_placesTaken 5 (some .int) ∈ xwl := xin4 (List.mem_of_getElem? (i := 120) rfl) rfl
theorem xw930 : Cond.methodLink RX7 35 yX1_isSet ∈ xwl := xin4 (List.mem_of_getElem? (i := 121) (by decide +kernel)) rfl
theorem xw931 : Cond.methodLink RX7 41 yX1_pageOf ∈ xwl := xin4 (List.mem_of_getElem? (i := 122) (by decide +kernel)) rfl
theorem xw932 : Cond.methodLink RX7 45 yX0_needsPlaces ∈ xwl := xin4 (List.mem_of_getElem? (i := 123) (by decide +kernel)) rfl
theorem xw933 : Cond.methodLink RL 117 yX10_takes ∈ xwl := xin4 (List.mem_of_getElem? (i := 124) (by decide +kernel)) rfl
theorem xw934 : Cond.instanceMethod yX10_takes ∈ xwl := xin4 (List.mem_of_getElem? (i := 125) (by decide +kernel)) rfl
theorem xw935 : Cond.selects RX10 yX10_takes yX10_takes ∈ xwl := xin4 (List.mem_of_getElem? (i := 126) (by decide +kernel)) rfl
theorem xw936 : Cond.code yX10_takes cX10_takes 5 (some .int) ∈ xwl := xin4 (List.mem_of_getElem? (i := 127) rfl) rfl
theorem xw937 : Cond.methodLink RX10 285 yX4_bestSpot ∈ xwl := xin4 (List.mem_of_getElem? (i := 128) (by decide +kernel)) rfl
theorem xw938 : Cond.methodLink RX10 289 yX4_greatest ∈ xwl := xin4 (List.mem_of_getElem? (i := 129) (by decide +kernel)) rfl
theorem xw939 : Cond.instanceMethod yX4_greatest ∈ xwl := xin4 (List.mem_of_getElem? (i := 130) (by decide +kernel)) rfl
theorem xw940 : Cond.selects RX4 yX4_greatest yX4_greatest ∈ xwl := xin4 (List.mem_of_getElem? (i := 131) (by decide +kernel)) rfl
theorem xw941 : Cond.code yX4_greatest cX4_greatest 3 (some .int) ∈ xwl := xin4 (List.mem_of_getElem? (i := 132) rfl) rfl
theorem xw942 : Cond.methodLink RL 121 yX10_would ∈ xwl := xin4 (List.mem_of_getElem? (i := 133) (by decide +kernel)) rfl
theorem xw943 : Cond.instanceMethod yX10_would ∈ xwl := xin4 (List.mem_of_getElem? (i := 134) (by decide +kernel)) rfl
theorem xw944 : Cond.selects RX10 yX10_would yX10_would ∈ xwl := xin4 (List.mem_of_getElem? (i := 135) (by decide +kernel)) rfl
theorem xw945 : Cond.code yX10_would cX10_would 5 (some .int) ∈ xwl := xin4 (List.mem_of_getElem? (i := 136) rfl) rfl
theorem xw946 : Cond.methodLink RL 125 yX10_best ∈ xwl := xin4 (List.mem_of_getElem? (i := 137) (by decide +kernel)) rfl
theorem xw947 : Cond.instanceMethod yX10_best ∈ xwl := xin4 (List.mem_of_getElem? (i := 138) (by decide +kernel)) rfl
theorem xw948 : Cond.selects RX10 yX10_best yX10_best ∈ xwl := xin4 (List.mem_of_getElem? (i := 139) (by decide +kernel)) rfl
theorem xw949 : Cond.code yX10_best cX10_best 7 (some .int) ∈ xwl := xin4 (List.mem_of_getElem? (i := 140) rfl) rfl
theorem xw950 : Cond.methodLink RX10 292 yX10_shortcoming ∈ xwl := xin4 (List.mem_of_getElem? (i := 141) (by decide +kernel)) rfl
theorem xw952 : Cond.instanceMethod yX10_shortcoming ∈ xwl := xin4 (List.mem_of_getElem? (i := 143) (by decide +kernel)) rfl
theorem xw953 : Cond.code yX10_shortcoming cX10_shortcoming 5 (some .int) ∈ xwl := xin4 (List.mem_of_getElem? (i := 144) rfl) rfl
theorem xw954 : Cond.methodLink RX10 304 yX1_framesSet ∈ xwl := xin4 (List.mem_of_getElem? (i := 145) (by decide +kernel)) rfl
theorem xw955 : Cond.instanceMethod yX1_framesSet ∈ xwl := xin4 (List.mem_of_getElem? (i := 146) (by decide +kernel)) rfl
theorem xw956 : Cond.selects RX1 yX1_framesSet yX1_framesSet ∈ xwl := xin4 (List.mem_of_getElem? (i := 147) (by decide +kernel)) rfl
theorem xw957 : Cond.code yX1_framesSet cX1_framesSet 3 (some .int) ∈ xwl := xin4 (List.mem_of_getElem? (i := 148) rfl) rfl
theorem xw958 : Cond.methodLink RL 130 yX10_lots ∈ xwl := xin4 (List.mem_of_getElem? (i := 149) (by decide +kernel)) rfl
theorem xw959 : Cond.instanceMethod yX10_lots ∈ xwl := xin4 (List.mem_of_getElem? (i := 150) (by decide +kernel)) rfl
theorem xw960 : Cond.selects RX10 yX10_lots yX10_lots ∈ xwl := xin4 (List.mem_of_getElem? (i := 151) (by decide +kernel)) rfl
theorem xw961 : Cond.code yX10_lots cX10_lots 6 (some .int) ∈ xwl := xin4 (List.mem_of_getElem? (i := 152) rfl) rfl
theorem xw962 : Cond.constant RX10 296 (2147483647) ∈ xwl := xin4 (List.mem_of_getElem? (i := 153) (by decide +kernel)) rfl
theorem xw963 : Cond.constantLong RX10 297 (48271) ∈ xwl := xin4 (List.mem_of_getElem? (i := 154) (by decide +kernel)) rfl
theorem xw964 : Cond.constantLong RX10 299 (2147483647) ∈ xwl := xin4 (List.mem_of_getElem? (i := 155) (by decide +kernel)) rfl
theorem xw965 : Cond.methodLink RX10 301 yX10_doLot ∈ xwl := xin4 (List.mem_of_getElem? (i := 156) (by decide +kernel)) rfl
theorem xw967 : Cond.instanceMethod yX10_doLot ∈ xwl := xin4 (List.mem_of_getElem? (i := 158) (by decide +kernel)) rfl
theorem xw968 : Cond.code yX10_doLot cX10_doLot 5 none ∈ xwl := xin4 (List.mem_of_getElem? (i := 159) rfl) rfl
theorem xw969 : Cond.methodLink RL 134 yX10_asked ∈ xwl := xin4 (List.mem_of_getElem? (i := 160) (by decide +kernel)) rfl
theorem xw970 : Cond.instanceMethod yX10_asked ∈ xwl := xin4 (List.mem_of_getElem? (i := 161) (by decide +kernel)) rfl
theorem xw971 : Cond.selects RX10 yX10_asked yX10_asked ∈ xwl := xin4 (List.mem_of_getElem? (i := 162) (by decide +kernel)) rfl
theorem xw972 : Cond.code yX10_asked cX10_asked 1 (some .int) ∈ xwl := xin4 (List.mem_of_getElem? (i := 163) rfl) rfl
theorem xw973 : Cond.methodLink RL 138 yX10_count ∈ xwl := xin4 (List.mem_of_getElem? (i := 164) (by decide +kernel)) rfl
theorem xw974 : Cond.instanceMethod yX10_count ∈ xwl := xin4 (List.mem_of_getElem? (i := 165) (by decide +kernel)) rfl
theorem xw975 : Cond.selects RX10 yX10_count yX10_count ∈ xwl := xin4 (List.mem_of_getElem? (i := 166) (by decide +kernel)) rfl
theorem xw976 : Cond.code yX10_count cX10_count 3 (some .int) ∈ xwl := xin4 (List.mem_of_getElem? (i := 167) rfl) rfl
theorem xw977 : Cond.methodLink RX10 310 yX10_placesTakenOnAllPages ∈ xwl := xin4 (List.mem_of_getElem? (i := 168) (by decide +kernel)) rfl
theorem xw979 : Cond.instanceMethod yX10_placesTakenOnAllPages ∈ xwl := xin4 (List.mem_of_getElem? (i := 170) (by decide +kernel)) rfl
theorem xw980 : Cond.code yX10_placesTakenOnAllPages cX10_placesTakenOnAllPages 4 (some .int) ∈ xwl := xin4 (List.mem_of_getElem? (i := 171) rfl) rfl
theorem xw981 : Cond.methodLink RX10 313 yX10_freeOnAllPages ∈ xwl := xin4 (List.mem_of_getElem? (i := 172) (by decide +kernel)) rfl
theorem xw983 : Cond.instanceMethod yX10_freeOnAllPages ∈ xwl := xin4 (List.mem_of_getElem? (i := 174) (by decide +kernel)) rfl
theorem xw984 : Cond.code yX10_freeOnAllPages cX10_freeOnAllPages 4 (some .int) ∈ xwl := xin4 (List.mem_of_getElem? (i := 175) rfl) rfl
theorem xw985 : Cond.methodLink RX10 316 yX1_framesTurned ∈ xwl := xin4 (List.mem_of_getElem? (i := 176) (by decide +kernel)) rfl
theorem xw986 : Cond.instanceMethod yX1_framesTurned ∈ xwl := xin4 (List.mem_of_getElem? (i := 177) (by decide +kernel)) rfl
theorem xw987 : Cond.selects RX1 yX1_framesTurned yX1_framesTurned ∈ xwl := xin4 (List.mem_of_getElem? (i := 178) (by decide +kernel)) rfl
theorem xw988 : Cond.code yX1_framesTurned cX1_framesTurned 3 (some .int) ∈ xwl := xin4 (List.mem_of_getElem? (i := 179) rfl) rfl
theorem xw989 : Cond.methodLink RX10 319 yX10_rowsThere ∈ xwl := xin4 (List.mem_of_getElem? (i := 180) (by decide +kernel)) rfl
theorem xw991 : Cond.instanceMethod yX10_rowsThere ∈ xwl := xin4 (List.mem_of_getElem? (i := 182) (by decide +kernel)) rfl
theorem xw992 : Cond.code yX10_rowsThere cX10_rowsThere 3 (some .int) ∈ xwl := xin4 (List.mem_of_getElem? (i := 183) rfl) rfl
theorem xw993 : Cond.methodLink RX10 322 yX10_textsThere ∈ xwl := xin4 (List.mem_of_getElem? (i := 184) (by decide +kernel)) rfl
theorem xw995 : Cond.instanceMethod yX10_textsThere ∈ xwl := xin4 (List.mem_of_getElem? (i := 186) (by decide +kernel)) rfl
theorem xw996 : Cond.code yX10_textsThere cX10_textsThere 3 (some .int) ∈ xwl := xin4 (List.mem_of_getElem? (i := 187) rfl) rfl
theorem xw997 : Cond.methodLink RX10 325 yX10_sheetsKept ∈ xwl := xin4 (List.mem_of_getElem? (i := 188) (by decide +kernel)) rfl
theorem xw999 : Cond.instanceMethod yX10_sheetsKept ∈ xwl := xin4 (List.mem_of_getElem? (i := 190) (by decide +kernel)) rfl
theorem xw1000 : Cond.code yX10_sheetsKept cX10_sheetsKept 3 (some .int) ∈ xwl := xin4 (List.mem_of_getElem? (i := 191) rfl) rfl
theorem xw1001 : Cond.methodLink RL 142 yX10_finding ∈ xwl := xin4 (List.mem_of_getElem? (i := 192) (by decide +kernel)) rfl
theorem xw1002 : Cond.instanceMethod yX10_finding ∈ xwl := xin4 (List.mem_of_getElem? (i := 193) (by decide +kernel)) rfl
theorem xw1003 : Cond.selects RX10 yX10_finding yX10_finding ∈ xwl := xin4 (List.mem_of_getElem? (i := 194) (by decide +kernel)) rfl
theorem xw1004 : Cond.code yX10_finding cX10_finding 1 (some .int) ∈ xwl := xin4 (List.mem_of_getElem? (i := 195) rfl) rfl
theorem xw1005 : Cond.methodLink RL 146 yX10_findings ∈ xwl := xin4 (List.mem_of_getElem? (i := 196) (by decide +kernel)) rfl
theorem xw1006 : Cond.instanceMethod yX10_findings ∈ xwl := xin4 (List.mem_of_getElem? (i := 197) (by decide +kernel)) rfl
theorem xw1007 : Cond.selects RX10 yX10_findings yX10_findings ∈ xwl := xin4 (List.mem_of_getElem? (i := 198) (by decide +kernel)) rfl
theorem xw1008 : Cond.code yX10_findings cX10_findings 2 (some .int) ∈ xwl := xin4 (List.mem_of_getElem? (i := 199) rfl) rfl
theorem xw1009 : Cond.methodLink RL 150 yX10_digest ∈ xwl := xin4 (List.mem_of_getElem? (i := 200) (by decide +kernel)) rfl
theorem xw1010 : Cond.instanceMethod yX10_digest ∈ xwl := xin4 (List.mem_of_getElem? (i := 201) (by decide +kernel)) rfl
theorem xw1011 : Cond.selects RX10 yX10_digest yX10_digest ∈ xwl := xin4 (List.mem_of_getElem? (i := 202) (by decide +kernel)) rfl
theorem xw1012 : Cond.code yX10_digest cX10_digest 5 (some .long) ∈ xwl := xin4 (List.mem_of_getElem? (i := 203) rfl) rfl
theorem xw1013 : Cond.constantLong RX10 328 (17) ∈ xwl := xin4 (List.mem_of_getElem? (i := 204) (by decide +kernel)) rfl
theorem xw1014 : Cond.constantLong RX10 330 (31) ∈ xwl := xin4 (List.mem_of_getElem? (i := 205) (by decide +kernel)) rfl
theorem xw1015 : Cond.methodLink RX10 332 yX10_count ∈ xwl := xin4 (List.mem_of_getElem? (i := 206) (by decide +kernel)) rfl
theorem xw1016 : Cond.methodLink RX10 335 yX10_withFrame ∈ xwl := xin4 (List.mem_of_getElem? (i := 207) (by decide +kernel)) rfl
theorem xw1018 : Cond.instanceMethod yX10_withFrame ∈ xwl := xin4 (List.mem_of_getElem? (i := 209) (by decide +kernel)) rfl
theorem xw1019 : Cond.code yX10_withFrame cX10_withFrame 7 (some .long) ∈ xwl := xin4 (List.mem_of_getElem? (i := 210) rfl) rfl
theorem xw1020 : Cond.classLink RL 10 RX11 ∈ xwl := xin4 (List.mem_of_getElem? (i := 211) (by decide +kernel)) rfl
theorem xw1021 : Cond.instantiable RX11 45 ∈ xwl := xin4 (List.mem_of_getElem? (i := 212) (by decide +kernel)) rfl
theorem xw1022 : Cond.methodLink RL 12 yX11_init ∈ xwl := xin4 (List.mem_of_getElem? (i := 213) (by decide +kernel)) rfl
theorem xw1023 : Cond.instanceMethod yX11_init ∈ xwl := xin4 (List.mem_of_getElem? (i := 214) (by decide +kernel)) rfl
theorem xw1024 : Cond.code yX11_init cX11_init 2 none ∈ xwl := xin4 (List.mem_of_getElem? (i := 215) rfl) rfl
theorem xw1025 : Cond.methodLink RX11 1 objectInit ∈ xwl := xin4 (List.mem_of_getElem? (i := 216) (by decide +kernel)) rfl
theorem xw1026 : Cond.fieldLink RX11 72 "FrameSheetsModel" "told" "I" ∈ xwl := xin4 (List.mem_of_getElem? (i := 217) (by decide +kernel)) rfl
theorem xw1027 : Cond.fieldLink RX11 68 "FrameSheetsModel" "latest" "I" ∈ xwl := xin4 (List.mem_of_getElem? (i := 218) (by decide +kernel)) rfl
theorem xw1028 : Cond.fieldLink RX11 7 "FrameSheetsModel" "came" "[I" ∈ xwl := xin4 (List.mem_of_getElem? (i := 219) (by decide +kernel)) rfl
theorem xw1029 : Cond.fieldLink RX11 13 "FrameSheetsModel" "sizes" "[I" ∈ xwl := xin4 (List.mem_of_getElem? (i := 220) (by decide +kernel)) rfl
theorem xw1030 : Cond.fieldLink RX11 16 "FrameSheetsModel" "rows" "[I" ∈ xwl := xin4 (List.mem_of_getElem? (i := 221) (by decide +kernel)) rfl
theorem xw1031 : Cond.fieldLink RX11 19 "FrameSheetsModel" "copied" "[I" ∈ xwl := xin4 (List.mem_of_getElem? (i := 222) (by decide +kernel)) rfl
theorem xw1032 : Cond.fieldLink RX11 22 "FrameSheetsModel" "textSizes" "[I" ∈ xwl := xin4 (List.mem_of_getElem? (i := 223) (by decide +kernel)) rfl
theorem xw1033 : Cond.fieldLink RX11 25 "FrameSheetsModel" "bytes" "[B" ∈ xwl := xin4 (List.mem_of_getElem? (i := 224) (by decide +kernel)) rfl
theorem xw1034 : Cond.fieldLink RX11 170 "FrameSheetsModel" "wide" "I" ∈ xwl := xin4 (List.mem_of_getElem? (i := 225) (by decide +kernel)) rfl
theorem xw1035 : Cond.fieldLink RX11 173 "FrameSheetsModel" "high" "I" ∈ xwl := xin4 (List.mem_of_getElem? (i := 226) (by decide +kernel)) rfl
theorem xw1036 : Cond.fieldLink RX11 176 "FrameSheetsModel" "bleed" "I" ∈ xwl := xin4 (List.mem_of_getElem? (i := 227) (by decide +kernel)) rfl
theorem xw1037 : Cond.fieldLink RX11 179 "FrameSheetsModel" "frameMany" "I" ∈ xwl := xin4 (List.mem_of_getElem? (i := 228) (by decide +kernel)) rfl
theorem xw1038 : Cond.fieldLink RX11 29 "FrameSheetsModel" "given" "[I" ∈ xwl := xin4 (List.mem_of_getElem? (i := 229) (by decide +kernel)) rfl
theorem xw1039 : Cond.fieldLink RX11 97 "FrameSheetsModel" "readAt" "I" ∈ xwl := xin4 (List.mem_of_getElem? (i := 230) (by decide +kernel)) rfl
theorem xw1040 : Cond.fieldLink RX11 107 "FrameSheetsModel" "tokenAt" "I" ∈ xwl := xin4 (List.mem_of_getElem? (i := 231) (by decide +kernel)) rfl
theorem xw1041 : Cond.fieldLink RX11 110 "FrameSheetsModel" "token" "I" ∈ xwl := xin4 (List.mem_of_getElem? (i := 232) (by decide +kernel)) rfl
theorem xw1042 : Cond.fieldLink RX11 119 "FrameSheetsModel" "value" "I" ∈ xwl := xin4 (List.mem_of_getElem? (i := 233) (by decide +kernel)) rfl
theorem xw1043 : Cond.fieldLink RX11 122 "FrameSheetsModel" "faultAt" "I" ∈ xwl := xin4 (List.mem_of_getElem? (i := 234) (by decide +kernel)) rfl
theorem xw1044 : Cond.fieldLink RX11 135 "FrameSheetsModel" "readWide" "I" ∈ xwl := xin4 (List.mem_of_getElem? (i := 235) (by decide +kernel)) rfl
theorem xw1045 : Cond.fieldLink RX11 138 "FrameSheetsModel" "readHigh" "I" ∈ xwl := xin4 (List.mem_of_getElem? (i := 236) (by decide +kernel)) rfl
theorem xw1046 : Cond.fieldLink RX11 144 "FrameSheetsModel" "readBleed" "I" ∈ xwl := xin4 (List.mem_of_getElem? (i := 237) (by decide +kernel)) rfl
theorem xw1047 : Cond.fieldLink RX11 147 "FrameSheetsModel" "readMany" "I" ∈ xwl := xin4 (List.mem_of_getElem? (i := 238) (by decide +kernel)) rfl
theorem xw1048 : Cond.fieldLink RX11 32 "FrameSheetsModel" "read" "[I" ∈ xwl := xin4 (List.mem_of_getElem? (i := 239) (by decide +kernel)) rfl
theorem xw1049 : Cond.fieldLink RX11 35 "FrameSheetsModel" "now" "[I" ∈ xwl := xin5 (List.mem_of_getElem? (i := 0) (by decide +kernel)) rfl
theorem xw1050 : Cond.fieldLink RX11 188 "FrameSheetsModel" "outMany" "I" ∈ xwl := xin5 (List.mem_of_getElem? (i := 1) (by decide +kernel)) rfl
theorem xw1051 : Cond.fieldLink RX11 38 "FrameSheetsModel" "out" "[B" ∈ xwl := xin5 (List.mem_of_getElem? (i := 2) (by decide +kernel)) rfl
theorem xw1052 : Cond.fieldLink RX11 41 "FrameSheetsModel" "grid" "[I" ∈ xwl := xin5 (List.mem_of_getElem? (i := 3) (by decide +kernel)) rfl
theorem xw1053 : Cond.fieldLink RX11 242 "FrameSheetsModel" "freeMany" "I" ∈ xwl := xin5 (List.mem_of_getElem? (i := 4) (by decide +kernel)) rfl
theorem xw1054 : Cond.fieldLink RX11 44 "FrameSheetsModel" "freeX" "[I" ∈ xwl := xin5 (List.mem_of_getElem? (i := 5) (by decide +kernel)) rfl
theorem xw1055 : Cond.fieldLink RX11 47 "FrameSheetsModel" "freeY" "[I" ∈ xwl := xin5 (List.mem_of_getElem? (i := 6) (by decide +kernel)) rfl
theorem xw1056 : Cond.fieldLink RX11 50 "FrameSheetsModel" "freeW" "[I" ∈ xwl := xin5 (List.mem_of_getElem? (i := 7) (by decide +kernel)) rfl
theorem xw1057 : Cond.fieldLink RX11 53 "FrameSheetsModel" "freeH" "[I" ∈ xwl := xin5 (List.mem_of_getElem? (i := 8) (by decide +kernel)) rfl
theorem xw1058 : Cond.fieldLink RX11 248 "FrameSheetsModel" "bestAt" "I" ∈ xwl := xin5 (List.mem_of_getElem? (i := 9) (by decide +kernel)) rfl
theorem xw1059 : Cond.fieldLink RX11 267 "FrameSheetsModel" "bestTurned" "I" ∈ xwl := xin5 (List.mem_of_getElem? (i := 10) (by decide +kernel)) rfl
theorem xw1060 : Cond.fieldLink RX11 261 "FrameSheetsModel" "bestFirst" "I" ∈ xwl := xin5 (List.mem_of_getElem? (i := 11) (by decide +kernel)) rfl
theorem xw1061 : Cond.fieldLink RX11 264 "FrameSheetsModel" "bestSecond" "I" ∈ xwl := xin5 (List.mem_of_getElem? (i := 12) (by decide +kernel)) rfl
theorem xw1062 : Cond.fieldLink RX11 185 "FrameSheetsModel" "deedMany" "I" ∈ xwl := xin5 (List.mem_of_getElem? (i := 13) (by decide +kernel)) rfl
theorem xw1063 : Cond.fieldLink RX11 56 "FrameSheetsModel" "log" "[I" ∈ xwl := xin5 (List.mem_of_getElem? (i := 14) (by decide +kernel)) rfl
theorem xw1064 : Cond.fieldLink RX11 59 "FrameSheetsModel" "keptMany" "[I" ∈ xwl := xin5 (List.mem_of_getElem? (i := 15) (by decide +kernel)) rfl
theorem xw1065 : Cond.fieldLink RX11 62 "FrameSheetsModel" "kept" "[I" ∈ xwl := xin5 (List.mem_of_getElem? (i := 16) (by decide +kernel)) rfl
theorem xw1066 : Cond.fieldLink RX11 65 "FrameSheetsModel" "aside" "[I" ∈ xwl := xin5 (List.mem_of_getElem? (i := 17) (by decide +kernel)) rfl
theorem xw1067 : Cond.fieldLink RX11 317 "FrameSheetsModel" "wouldPages" "I" ∈ xwl := xin5 (List.mem_of_getElem? (i := 18) (by decide +kernel)) rfl
theorem xw1068 : Cond.fieldLink RX11 320 "FrameSheetsModel" "wouldMissing" "I" ∈ xwl := xin5 (List.mem_of_getElem? (i := 19) (by decide +kernel)) rfl
theorem xw1069 : Cond.fieldLink RX11 323 "FrameSheetsModel" "wouldLast" "I" ∈ xwl := xin5 (List.mem_of_getElem? (i := 20) (by decide +kernel)) rfl
theorem xw1070 : Cond.fieldLink RX11 357 "FrameSheetsModel" "h" "J" ∈ xwl := xin5 (List.mem_of_getElem? (i := 21) (by decide +kernel)) rfl
theorem xw1071 : Cond.lays RX11 "FrameSheetsModel" "told" "I" ∈ xwl := xin5 (List.mem_of_getElem? (i := 22) (by decide +kernel)) rfl
theorem xw1073 : Cond.lays RX11 "FrameSheetsModel" "latest" "I" ∈ xwl := xin5 (List.mem_of_getElem? (i := 24) (by decide +kernel)) rfl
theorem xw1075 : Cond.laysFinal RX11 "FrameSheetsModel" "came" "[I" ∈ xwl := xin5 (List.mem_of_getElem? (i := 26) (by decide +kernel)) rfl
theorem xw1077 : Cond.laysFinal RX11 "FrameSheetsModel" "sizes" "[I" ∈ xwl := xin5 (List.mem_of_getElem? (i := 28) (by decide +kernel)) rfl
theorem xw1079 : Cond.laysFinal RX11 "FrameSheetsModel" "rows" "[I" ∈ xwl := xin5 (List.mem_of_getElem? (i := 30) (by decide +kernel)) rfl
theorem xw1081 : Cond.laysFinal RX11 "FrameSheetsModel" "copied" "[I" ∈ xwl := xin5 (List.mem_of_getElem? (i := 32) (by decide +kernel)) rfl
theorem xw1083 : Cond.laysFinal RX11 "FrameSheetsModel" "textSizes" "[I" ∈ xwl := xin5 (List.mem_of_getElem? (i := 34) (by decide +kernel)) rfl
theorem xw1085 : Cond.laysFinal RX11 "FrameSheetsModel" "bytes" "[B" ∈ xwl := xin5 (List.mem_of_getElem? (i := 36) (by decide +kernel)) rfl
theorem xw1087 : Cond.lays RX11 "FrameSheetsModel" "wide" "I" ∈ xwl := xin5 (List.mem_of_getElem? (i := 38) (by decide +kernel)) rfl
theorem xw1089 : Cond.lays RX11 "FrameSheetsModel" "high" "I" ∈ xwl := xin5 (List.mem_of_getElem? (i := 40) (by decide +kernel)) rfl
theorem xw1091 : Cond.lays RX11 "FrameSheetsModel" "bleed" "I" ∈ xwl := xin5 (List.mem_of_getElem? (i := 42) (by decide +kernel)) rfl
theorem xw1093 : Cond.lays RX11 "FrameSheetsModel" "frameMany" "I" ∈ xwl := xin5 (List.mem_of_getElem? (i := 44) (by decide +kernel)) rfl
theorem xw1095 : Cond.laysFinal RX11 "FrameSheetsModel" "given" "[I" ∈ xwl := xin5 (List.mem_of_getElem? (i := 46) (by decide +kernel)) rfl
theorem xw1097 : Cond.lays RX11 "FrameSheetsModel" "readAt" "I" ∈ xwl := xin5 (List.mem_of_getElem? (i := 48) (by decide +kernel)) rfl
theorem xw1099 : Cond.lays RX11 "FrameSheetsModel" "tokenAt" "I" ∈ xwl := xin5 (List.mem_of_getElem? (i := 50) (by decide +kernel)) rfl
theorem xw1101 : Cond.lays RX11 "FrameSheetsModel" "token" "I" ∈ xwl := xin5 (List.mem_of_getElem? (i := 52) (by decide +kernel)) rfl
theorem xw1103 : Cond.lays RX11 "FrameSheetsModel" "value" "I" ∈ xwl := xin5 (List.mem_of_getElem? (i := 54) (by decide +kernel)) rfl
theorem xw1105 : Cond.lays RX11 "FrameSheetsModel" "faultAt" "I" ∈ xwl := xin5 (List.mem_of_getElem? (i := 56) (by decide +kernel)) rfl
theorem xw1107 : Cond.lays RX11 "FrameSheetsModel" "readWide" "I" ∈ xwl := xin5 (List.mem_of_getElem? (i := 58) (by decide +kernel)) rfl
theorem xw1109 : Cond.lays RX11 "FrameSheetsModel" "readHigh" "I" ∈ xwl := xin5 (List.mem_of_getElem? (i := 60) (by decide +kernel)) rfl
theorem xw1111 : Cond.lays RX11 "FrameSheetsModel" "readBleed" "I" ∈ xwl := xin5 (List.mem_of_getElem? (i := 62) (by decide +kernel)) rfl
theorem xw1113 : Cond.lays RX11 "FrameSheetsModel" "readMany" "I" ∈ xwl := xin5 (List.mem_of_getElem? (i := 64) (by decide +kernel)) rfl
theorem xw1115 : Cond.laysFinal RX11 "FrameSheetsModel" "read" "[I" ∈ xwl := xin5 (List.mem_of_getElem? (i := 66) (by decide +kernel)) rfl
theorem xw1117 : Cond.laysFinal RX11 "FrameSheetsModel" "now" "[I" ∈ xwl := xin5 (List.mem_of_getElem? (i := 68) (by decide +kernel)) rfl
theorem xw1119 : Cond.lays RX11 "FrameSheetsModel" "outMany" "I" ∈ xwl := xin5 (List.mem_of_getElem? (i := 70) (by decide +kernel)) rfl
theorem xw1121 : Cond.laysFinal RX11 "FrameSheetsModel" "out" "[B" ∈ xwl := xin5 (List.mem_of_getElem? (i := 72) (by decide +kernel)) rfl
theorem xw1123 : Cond.laysFinal RX11 "FrameSheetsModel" "grid" "[I" ∈ xwl := xin5 (List.mem_of_getElem? (i := 74) (by decide +kernel)) rfl
theorem xw1125 : Cond.lays RX11 "FrameSheetsModel" "freeMany" "I" ∈ xwl := xin5 (List.mem_of_getElem? (i := 76) (by decide +kernel)) rfl
theorem xw1127 : Cond.laysFinal RX11 "FrameSheetsModel" "freeX" "[I" ∈ xwl := xin5 (List.mem_of_getElem? (i := 78) (by decide +kernel)) rfl
theorem xw1129 : Cond.laysFinal RX11 "FrameSheetsModel" "freeY" "[I" ∈ xwl := xin5 (List.mem_of_getElem? (i := 80) (by decide +kernel)) rfl
theorem xw1131 : Cond.laysFinal RX11 "FrameSheetsModel" "freeW" "[I" ∈ xwl := xin5 (List.mem_of_getElem? (i := 82) (by decide +kernel)) rfl
theorem xw1133 : Cond.laysFinal RX11 "FrameSheetsModel" "freeH" "[I" ∈ xwl := xin5 (List.mem_of_getElem? (i := 84) (by decide +kernel)) rfl
theorem xw1135 : Cond.lays RX11 "FrameSheetsModel" "bestAt" "I" ∈ xwl := xin5 (List.mem_of_getElem? (i := 86) (by decide +kernel)) rfl
theorem xw1137 : Cond.lays RX11 "FrameSheetsModel" "bestTurned" "I" ∈ xwl := xin5 (List.mem_of_getElem? (i := 88) (by decide +kernel)) rfl
theorem xw1139 : Cond.lays RX11 "FrameSheetsModel" "bestFirst" "I" ∈ xwl := xin5 (List.mem_of_getElem? (i := 90) (by decide +kernel)) rfl
theorem xw1141 : Cond.lays RX11 "FrameSheetsModel" "bestSecond" "I" ∈ xwl := xin5 (List.mem_of_getElem? (i := 92) (by decide +kernel)) rfl
theorem xw1143 : Cond.lays RX11 "FrameSheetsModel" "deedMany" "I" ∈ xwl := xin5 (List.mem_of_getElem? (i := 94) (by decide +kernel)) rfl
theorem xw1145 : Cond.laysFinal RX11 "FrameSheetsModel" "log" "[I" ∈ xwl := xin5 (List.mem_of_getElem? (i := 96) (by decide +kernel)) rfl
theorem xw1147 : Cond.laysFinal RX11 "FrameSheetsModel" "keptMany" "[I" ∈ xwl := xin5 (List.mem_of_getElem? (i := 98) (by decide +kernel)) rfl
theorem xw1149 : Cond.laysFinal RX11 "FrameSheetsModel" "kept" "[I" ∈ xwl := xin5 (List.mem_of_getElem? (i := 100) (by decide +kernel)) rfl
theorem xw1151 : Cond.laysFinal RX11 "FrameSheetsModel" "aside" "[I" ∈ xwl := xin5 (List.mem_of_getElem? (i := 102) (by decide +kernel)) rfl
theorem xw1153 : Cond.lays RX11 "FrameSheetsModel" "wouldPages" "I" ∈ xwl := xin5 (List.mem_of_getElem? (i := 104) (by decide +kernel)) rfl
theorem xw1155 : Cond.lays RX11 "FrameSheetsModel" "wouldMissing" "I" ∈ xwl := xin5 (List.mem_of_getElem? (i := 106) (by decide +kernel)) rfl
theorem xw1157 : Cond.lays RX11 "FrameSheetsModel" "wouldLast" "I" ∈ xwl := xin5 (List.mem_of_getElem? (i := 108) (by decide +kernel)) rfl
theorem xw1159 : Cond.lays RX11 "FrameSheetsModel" "h" "J" ∈ xwl := xin5 (List.mem_of_getElem? (i := 110) (by decide +kernel)) rfl
theorem xw1162 : Cond.methodLink RL 137 yX11_asked ∈ xwl := xin5 (List.mem_of_getElem? (i := 113) (by decide +kernel)) rfl
theorem xw1163 : Cond.instanceMethod yX11_asked ∈ xwl := xin5 (List.mem_of_getElem? (i := 114) (by decide +kernel)) rfl
theorem xw1164 : Cond.selects RX11 yX11_asked yX11_asked ∈ xwl := xin5 (List.mem_of_getElem? (i := 115) (by decide +kernel)) rfl
theorem xw1165 : Cond.code yX11_asked cX11_asked 1 (some .int) ∈ xwl := xin5 (List.mem_of_getElem? (i := 116) rfl) rfl
theorem xw1166 : Cond.methodLink RL 145 yX11_finding ∈ xwl := xin5 (List.mem_of_getElem? (i := 117) (by decide +kernel)) rfl
theorem xw1167 : Cond.instanceMethod yX11_finding ∈ xwl := xin5 (List.mem_of_getElem? (i := 118) (by decide +kernel)) rfl
theorem xw1168 : Cond.selects RX11 yX11_finding yX11_finding ∈ xwl := xin5 (List.mem_of_getElem? (i := 119) (by decide +kernel)) rfl
theorem xw1169 : Cond.code yX11_finding cX11_finding 1 (some .int) ∈ xwl := xin5 (List.mem_of_getElem? (i := 120) rfl) rfl
theorem xw1170 : Cond.methodLink RL 149 yX11_findings ∈ xwl := xin5 (List.mem_of_getElem? (i := 121) (by decide +kernel)) rfl
theorem xw1171 : Cond.instanceMethod yX11_findings ∈ xwl := xin5 (List.mem_of_getElem? (i := 122) (by decide +kernel)) rfl
theorem xw1172 : Cond.selects RX11 yX11_findings yX11_findings ∈ xwl := xin5 (List.mem_of_getElem? (i := 123) (by decide +kernel)) rfl
theorem xw1173 : Cond.code yX11_findings cX11_findings 2 (some .int) ∈ xwl := xin5 (List.mem_of_getElem? (i := 124) rfl) rfl
theorem xw1174 : Cond.methodLink RX11 75 yX11_in ∈ xwl := xin5 (List.mem_of_getElem? (i := 125) (by decide +kernel)) rfl
theorem xw1175 : Cond.static yX11_in ∈ xwl := xin5 (List.mem_of_getElem? (i := 126) (by decide +kernel)) rfl
theorem xw1176 : Cond.code yX11_in cX11_in 3 (some .boolean) ∈ xwl := xin5 (List.mem_of_getElem? (i := 127) rfl) rfl
theorem xw1177 : Cond.methodLink RL 17 yX11_row ∈ xwl := xin5 (List.mem_of_getElem? (i := 128) (by decide +kernel)) rfl
theorem xw1178 : Cond.instanceMethod yX11_row ∈ xwl := xin5 (List.mem_of_getElem? (i := 129) (by decide +kernel)) rfl
theorem xw1179 : Cond.selects RX11 yX11_row yX11_row ∈ xwl := xin5 (List.mem_of_getElem? (i := 130) (by decide +kernel)) rfl
theorem xw1180 : Cond.code yX11_row cX11_row 4 (some .int) ∈ xwl := xin5 (List.mem_of_getElem? (i := 131) rfl) rfl
theorem xw1181 : Cond.methodLink RX11 79 yX11_isRow ∈ xwl := xin5 (List.mem_of_getElem? (i := 132) (by decide +kernel)) rfl
theorem xw1182 : Cond.static yX11_isRow ∈ xwl := xin5 (List.mem_of_getElem? (i := 133) (by decide +kernel)) rfl
theorem xw1183 : Cond.code yX11_isRow cX11_isRow 1 (some .boolean) ∈ xwl := xin5 (List.mem_of_getElem? (i := 134) rfl) rfl
theorem xw1184 : Cond.methodLink RX11 83 yX11_found ∈ xwl := xin5 (List.mem_of_getElem? (i := 135) (by decide +kernel)) rfl
theorem xw1186 : Cond.instanceMethod yX11_found ∈ xwl := xin5 (List.mem_of_getElem? (i := 137) (by decide +kernel)) rfl
theorem xw1187 : Cond.code yX11_found cX11_found 2 (some .int) ∈ xwl := xin5 (List.mem_of_getElem? (i := 138) rfl) rfl
theorem xw1188 : Cond.methodLink RL 22 yX11_lay ∈ xwl := xin5 (List.mem_of_getElem? (i := 139) (by decide +kernel)) rfl
theorem xw1189 : Cond.instanceMethod yX11_lay ∈ xwl := xin5 (List.mem_of_getElem? (i := 140) (by decide +kernel)) rfl
theorem xw1190 : Cond.selects RX11 yX11_lay yX11_lay ∈ xwl := xin5 (List.mem_of_getElem? (i := 141) (by decide +kernel)) rfl
theorem xw1191 : Cond.code yX11_lay cX11_lay 5 (some .int) ∈ xwl := xin5 (List.mem_of_getElem? (i := 142) rfl) rfl
theorem xw1192 : Cond.methodLink RX11 87 yX11_rowAt ∈ xwl := xin5 (List.mem_of_getElem? (i := 143) (by decide +kernel)) rfl
theorem xw1194 : Cond.instanceMethod yX11_rowAt ∈ xwl := xin5 (List.mem_of_getElem? (i := 145) (by decide +kernel)) rfl
theorem xw1195 : Cond.code yX11_rowAt cX11_rowAt 3 (some .int) ∈ xwl := xin5 (List.mem_of_getElem? (i := 146) rfl) rfl
theorem xw1196 : Cond.methodLink RX11 91 yX11_tells ∈ xwl := xin5 (List.mem_of_getElem? (i := 147) (by decide +kernel)) rfl
theorem xw1198 : Cond.instanceMethod yX11_tells ∈ xwl := xin5 (List.mem_of_getElem? (i := 149) (by decide +kernel)) rfl
theorem xw1199 : Cond.code yX11_tells cX11_tells 3 (some .int) ∈ xwl := xin5 (List.mem_of_getElem? (i := 150) rfl) rfl
theorem xw1200 : Cond.methodLink RL 26 yX11_at ∈ xwl := xin5 (List.mem_of_getElem? (i := 151) (by decide +kernel)) rfl
theorem xw1201 : Cond.instanceMethod yX11_at ∈ xwl := xin5 (List.mem_of_getElem? (i := 152) (by decide +kernel)) rfl
theorem xw1202 : Cond.selects RX11 yX11_at yX11_at ∈ xwl := xin5 (List.mem_of_getElem? (i := 153) (by decide +kernel)) rfl
theorem xw1203 : Cond.code yX11_at cX11_at 3 (some .int) ∈ xwl := xin5 (List.mem_of_getElem? (i := 154) rfl) rfl
theorem xw1204 : Cond.methodLink RL 31 yX11_tear ∈ xwl := xin5 (List.mem_of_getElem? (i := 155) (by decide +kernel)) rfl
theorem xw1205 : Cond.instanceMethod yX11_tear ∈ xwl := xin5 (List.mem_of_getElem? (i := 156) (by decide +kernel)) rfl
theorem xw1206 : Cond.selects RX11 yX11_tear yX11_tear ∈ xwl := xin5 (List.mem_of_getElem? (i := 157) (by decide +kernel)) rfl
theorem xw1207 : Cond.code yX11_tear cX11_tear 2 (some .int) ∈ xwl := xin5 (List.mem_of_getElem? (i := 158) rfl) rfl
theorem xw1208 : Cond.methodLink RL 36 yX11_copy ∈ xwl := xin5 (List.mem_of_getElem? (i := 159) (by decide +kernel)) rfl
theorem xw1209 : Cond.instanceMethod yX11_copy ∈ xwl := xin5 (List.mem_of_getElem? (i := 160) (by decide +kernel)) rfl
theorem xw1210 : Cond.selects RX11 yX11_copy yX11_copy ∈ xwl := xin5 (List.mem_of_getElem? (i := 161) (by decide +kernel)) rfl
theorem xw1211 : Cond.code yX11_copy cX11_copy 7 (some .int) ∈ xwl := xin5 (List.mem_of_getElem? (i := 162) rfl) rfl
theorem xw1212 : Cond.methodLink RL 40 yX11_mean ∈ xwl := xin5 (List.mem_of_getElem? (i := 163) (by decide +kernel)) rfl
theorem xw1213 : Cond.instanceMethod yX11_mean ∈ xwl := xin5 (List.mem_of_getElem? (i := 164) (by decide +kernel)) rfl
theorem xw1214 : Cond.selects RX11 yX11_mean yX11_mean ∈ xwl := xin5 (List.mem_of_getElem? (i := 165) (by decide +kernel)) rfl
theorem xw1215 : Cond.code yX11_mean cX11_mean 5 (some .int) ∈ xwl := xin5 (List.mem_of_getElem? (i := 166) rfl) rfl
theorem xw1216 : Cond.methodLink RL 44 yX11_text ∈ xwl := xin5 (List.mem_of_getElem? (i := 167) (by decide +kernel)) rfl
theorem xw1217 : Cond.instanceMethod yX11_text ∈ xwl := xin5 (List.mem_of_getElem? (i := 168) (by decide +kernel)) rfl
theorem xw1218 : Cond.selects RX11 yX11_text yX11_text ∈ xwl := xin5 (List.mem_of_getElem? (i := 169) (by decide +kernel)) rfl
theorem xw1219 : Cond.code yX11_text cX11_text 4 (some .int) ∈ xwl := xin5 (List.mem_of_getElem? (i := 170) rfl) rfl
theorem xw1220 : Cond.methodLink RX11 94 yX11_isText ∈ xwl := xin5 (List.mem_of_getElem? (i := 171) (by decide +kernel)) rfl
theorem xw1221 : Cond.static yX11_isText ∈ xwl := xin5 (List.mem_of_getElem? (i := 172) (by decide +kernel)) rfl
theorem xw1222 : Cond.code yX11_isText cX11_isText 1 (some .boolean) ∈ xwl := xin5 (List.mem_of_getElem? (i := 173) rfl) rfl
theorem xw1223 : Cond.methodLink RL 48 yX11_put ∈ xwl := xin5 (List.mem_of_getElem? (i := 174) (by decide +kernel)) rfl
theorem xw1224 : Cond.instanceMethod yX11_put ∈ xwl := xin5 (List.mem_of_getElem? (i := 175) (by decide +kernel)) rfl
theorem xw1225 : Cond.selects RX11 yX11_put yX11_put ∈ xwl := xin5 (List.mem_of_getElem? (i := 176) (by decide +kernel)) rfl
theorem xw1226 : Cond.code yX11_put cX11_put 5 (some .int) ∈ xwl := xin5 (List.mem_of_getElem? (i := 177) rfl) rfl
theorem xw1227 : Cond.methodLink RL 52 yX11_fault ∈ xwl := xin5 (List.mem_of_getElem? (i := 178) (by decide +kernel)) rfl
theorem xw1228 : Cond.instanceMethod yX11_fault ∈ xwl := xin5 (List.mem_of_getElem? (i := 179) (by decide +kernel)) rfl
theorem xw1229 : Cond.selects RX11 yX11_fault yX11_fault ∈ xwl := xin5 (List.mem_of_getElem? (i := 180) (by decide +kernel)) rfl
theorem xw1230 : Cond.code yX11_fault cX11_fault 2 (some .int) ∈ xwl := xin5 (List.mem_of_getElem? (i := 181) rfl) rfl
theorem xw1231 : Cond.methodLink RX11 167 yX11_faultOf ∈ xwl := xin5 (List.mem_of_getElem? (i := 182) (by decide +kernel)) rfl
theorem xw1233 : Cond.instanceMethod yX11_faultOf ∈ xwl := xin5 (List.mem_of_getElem? (i := 184) (by decide +kernel)) rfl
theorem xw1234 : Cond.code yX11_faultOf cX11_faultOf 2 (some .int) ∈ xwl := xin5 (List.mem_of_getElem? (i := 185) rfl) rfl
theorem xw1235 : Cond.methodLink RX11 103 yX11_blanks ∈ xwl := xin5 (List.mem_of_getElem? (i := 186) (by decide +kernel)) rfl
theorem xw1237 : Cond.instanceMethod yX11_blanks ∈ xwl := xin5 (List.mem_of_getElem? (i := 188) (by decide +kernel)) rfl
theorem xw1238 : Cond.code yX11_blanks cX11_blanks 2 none ∈ xwl := xin5 (List.mem_of_getElem? (i := 189) rfl) rfl
theorem xw1239 : Cond.methodLink RX11 100 yX11_byteAt ∈ xwl := xin5 (List.mem_of_getElem? (i := 190) (by decide +kernel)) rfl
theorem xw1241 : Cond.instanceMethod yX11_byteAt ∈ xwl := xin5 (List.mem_of_getElem? (i := 192) (by decide +kernel)) rfl
theorem xw1242 : Cond.code yX11_byteAt cX11_byteAt 3 (some .int) ∈ xwl := xin5 (List.mem_of_getElem? (i := 193) rfl) rfl
theorem xw1243 : Cond.methodLink RX11 164 yX11_readsOne ∈ xwl := xin5 (List.mem_of_getElem? (i := 194) (by decide +kernel)) rfl
theorem xw1245 : Cond.instanceMethod yX11_readsOne ∈ xwl := xin5 (List.mem_of_getElem? (i := 196) (by decide +kernel)) rfl
theorem xw1246 : Cond.code yX11_readsOne cX11_readsOne 3 (some .boolean) ∈ xwl := xin5 (List.mem_of_getElem? (i := 197) rfl) rfl
theorem xw1247 : Cond.methodLink RX11 125 yX11_next ∈ xwl := xin5 (List.mem_of_getElem? (i := 198) (by decide +kernel)) rfl
theorem xw1249 : Cond.instanceMethod yX11_next ∈ xwl := xin5 (List.mem_of_getElem? (i := 200) (by decide +kernel)) rfl
theorem xw1250 : Cond.code yX11_next cX11_next 2 none ∈ xwl := xin5 (List.mem_of_getElem? (i := 201) rfl) rfl
theorem xw1251 : Cond.methodLink RX11 113 yX11_isLetter ∈ xwl := xin5 (List.mem_of_getElem? (i := 202) (by decide +kernel)) rfl
theorem xw1253 : Cond.instanceMethod yX11_isLetter ∈ xwl := xin5 (List.mem_of_getElem? (i := 204) (by decide +kernel)) rfl
theorem xw1254 : Cond.code yX11_isLetter cX11_isLetter 2 (some .boolean) ∈ xwl := xin5 (List.mem_of_getElem? (i := 205) rfl) rfl
theorem xw1255 : Cond.methodLink RX11 116 yX11_isFigure ∈ xwl := xin5 (List.mem_of_getElem? (i := 206) (by decide +kernel)) rfl
theorem xw1257 : Cond.instanceMethod yX11_isFigure ∈ xwl := xin5 (List.mem_of_getElem? (i := 208) (by decide +kernel)) rfl
theorem xw1258 : Cond.code yX11_isFigure cX11_isFigure 2 (some .boolean) ∈ xwl := xin5 (List.mem_of_getElem? (i := 209) rfl) rfl
theorem xw1259 : Cond.methodLink RX11 150 yX11_word ∈ xwl := xin5 (List.mem_of_getElem? (i := 210) (by decide +kernel)) rfl
theorem xw1261 : Cond.instanceMethod yX11_word ∈ xwl := xin5 (List.mem_of_getElem? (i := 212) (by decide +kernel)) rfl
theorem xw1262 : Cond.code yX11_word cX11_word 4 (some .int) ∈ xwl := xin5 (List.mem_of_getElem? (i := 213) rfl) rfl
theorem xw1263 : Cond.constant RX11 153 (315851) ∈ xwl := xin5 (List.mem_of_getElem? (i := 214) (by decide +kernel)) rfl
theorem xw1264 : Cond.methodLink RX11 128 yX11_fails ∈ xwl := xin5 (List.mem_of_getElem? (i := 215) (by decide +kernel)) rfl
theorem xw1266 : Cond.instanceMethod yX11_fails ∈ xwl := xin5 (List.mem_of_getElem? (i := 217) (by decide +kernel)) rfl
theorem xw1267 : Cond.code yX11_fails cX11_fails 1 (some .boolean) ∈ xwl := xin5 (List.mem_of_getElem? (i := 218) rfl) rfl
theorem xw1268 : Cond.methodLink RX11 154 yX11_readsPage ∈ xwl := xin5 (List.mem_of_getElem? (i := 219) (by decide +kernel)) rfl
theorem xw1270 : Cond.instanceMethod yX11_readsPage ∈ xwl := xin5 (List.mem_of_getElem? (i := 221) (by decide +kernel)) rfl
theorem xw1271 : Cond.code yX11_readsPage cX11_readsPage 2 (some .boolean) ∈ xwl := xin5 (List.mem_of_getElem? (i := 222) rfl) rfl
theorem xw1272 : Cond.methodLink RX11 132 yX11_number ∈ xwl := xin5 (List.mem_of_getElem? (i := 223) (by decide +kernel)) rfl
theorem xw1274 : Cond.instanceMethod yX11_number ∈ xwl := xin5 (List.mem_of_getElem? (i := 225) (by decide +kernel)) rfl
theorem xw1275 : Cond.code yX11_number cX11_number 4 (some .boolean) ∈ xwl := xin5 (List.mem_of_getElem? (i := 226) rfl) rfl
theorem xw1276 : Cond.methodLink RX11 141 yX11_ends ∈ xwl := xin5 (List.mem_of_getElem? (i := 227) (by decide +kernel)) rfl
theorem xw1278 : Cond.instanceMethod yX11_ends ∈ xwl := xin5 (List.mem_of_getElem? (i := 229) (by decide +kernel)) rfl
theorem xw1279 : Cond.code yX11_ends cX11_ends 2 (some .boolean) ∈ xwl := xin5 (List.mem_of_getElem? (i := 230) rfl) rfl
theorem xw1280 : Cond.methodLink RX11 157 yX11_readsBleed ∈ xwl := xin5 (List.mem_of_getElem? (i := 231) (by decide +kernel)) rfl
theorem xw1282 : Cond.instanceMethod yX11_readsBleed ∈ xwl := xin5 (List.mem_of_getElem? (i := 233) (by decide +kernel)) rfl
theorem xw1283 : Cond.code yX11_readsBleed cX11_readsBleed 2 (some .boolean) ∈ xwl := xin5 (List.mem_of_getElem? (i := 234) rfl) rfl
theorem xw1284 : Cond.methodLink RX11 160 yX11_readsFrame ∈ xwl := xin5 (List.mem_of_getElem? (i := 235) (by decide +kernel)) rfl
theorem xw1286 : Cond.instanceMethod yX11_readsFrame ∈ xwl := xin5 (List.mem_of_getElem? (i := 237) (by decide +kernel)) rfl
theorem xw1287 : Cond.code yX11_readsFrame cX11_readsFrame 5 (some .boolean) ∈ xwl := xin5 (List.mem_of_getElem? (i := 238) rfl) rfl
theorem xw1288 : Cond.methodLink RL 56 yX11_sheet ∈ xwl := xin5 (List.mem_of_getElem? (i := 239) (by decide +kernel)) rfl
theorem xw1289 : Cond.instanceMethod yX11_sheet ∈ xwl := xin6 (List.mem_of_getElem? (i := 0) (by decide +kernel)) rfl
theorem xw1290 : Cond.selects RX11 yX11_sheet yX11_sheet ∈ xwl := xin6 (List.mem_of_getElem? (i := 1) (by decide +kernel)) rfl
theorem xw1291 : Cond.code yX11_sheet cX11_sheet 3 (some .int) ∈ xwl := xin6 (List.mem_of_getElem? (i := 2) rfl) rfl
theorem xw1292 : Cond.methodLink RX11 182 yX11_liftsAll ∈ xwl := xin6 (List.mem_of_getElem? (i := 3) (by decide +kernel)) rfl
theorem xw1294 : Cond.instanceMethod yX11_liftsAll ∈ xwl := xin6 (List.mem_of_getElem? (i := 5) (by decide +kernel)) rfl
theorem xw1295 : Cond.code yX11_liftsAll cX11_liftsAll 2 none ∈ xwl := xin6 (List.mem_of_getElem? (i := 6) rfl) rfl
theorem xw1296 : Cond.methodLink RL 60 yX11_write ∈ xwl := xin6 (List.mem_of_getElem? (i := 7) (by decide +kernel)) rfl
theorem xw1297 : Cond.instanceMethod yX11_write ∈ xwl := xin6 (List.mem_of_getElem? (i := 8) (by decide +kernel)) rfl
theorem xw1298 : Cond.selects RX11 yX11_write yX11_write ∈ xwl := xin6 (List.mem_of_getElem? (i := 9) (by decide +kernel)) rfl
theorem xw1299 : Cond.code yX11_write cX11_write 5 (some .int) ∈ xwl := xin6 (List.mem_of_getElem? (i := 10) rfl) rfl
theorem xw1300 : Cond.methodLink RX11 194 yX11_writesWord ∈ xwl := xin6 (List.mem_of_getElem? (i := 11) (by decide +kernel)) rfl
theorem xw1302 : Cond.instanceMethod yX11_writesWord ∈ xwl := xin6 (List.mem_of_getElem? (i := 13) (by decide +kernel)) rfl
theorem xw1303 : Cond.code yX11_writesWord cX11_writesWord 3 none ∈ xwl := xin6 (List.mem_of_getElem? (i := 14) rfl) rfl
theorem xw1304 : Cond.methodLink RX11 191 yX11_writes ∈ xwl := xin6 (List.mem_of_getElem? (i := 15) (by decide +kernel)) rfl
theorem xw1306 : Cond.instanceMethod yX11_writes ∈ xwl := xin6 (List.mem_of_getElem? (i := 17) (by decide +kernel)) rfl
theorem xw1307 : Cond.code yX11_writes cX11_writes 2 none ∈ xwl := xin6 (List.mem_of_getElem? (i := 18) rfl) rfl
theorem xw1308 : Cond.methodLink RX11 197 yX11_writesNumber ∈ xwl := xin6 (List.mem_of_getElem? (i := 19) (by decide +kernel)) rfl
theorem xw1310 : Cond.instanceMethod yX11_writesNumber ∈ xwl := xin6 (List.mem_of_getElem? (i := 21) (by decide +kernel)) rfl
theorem xw1311 : Cond.code yX11_writesNumber cX11_writesNumber 2 none ∈ xwl := xin6 (List.mem_of_getElem? (i := 22) rfl) rfl
theorem xw1312 : Cond.constant RX11 200 (1302862) ∈ xwl := xin6 (List.mem_of_getElem? (i := 23) (by decide +kernel)) rfl
theorem xw1313 : Cond.methodLink RX11 201 yX11_kindOf ∈ xwl := xin6 (List.mem_of_getElem? (i := 24) (by decide +kernel)) rfl
theorem xw1315 : Cond.instanceMethod yX11_kindOf ∈ xwl := xin6 (List.mem_of_getElem? (i := 26) (by decide +kernel)) rfl
theorem xw1316 : Cond.code yX11_kindOf cX11_kindOf 2 (some .int) ∈ xwl := xin6 (List.mem_of_getElem? (i := 27) rfl) rfl
theorem xw1317 : Cond.constant RX11 204 (3544025) ∈ xwl := xin6 (List.mem_of_getElem? (i := 28) (by decide +kernel)) rfl
theorem xw1318 : Cond.constant RX11 205 (179753) ∈ xwl := xin6 (List.mem_of_getElem? (i := 29) (by decide +kernel)) rfl
theorem xw1319 : Cond.constant RX11 206 (37026792) ∈ xwl := xin6 (List.mem_of_getElem? (i := 30) (by decide +kernel)) rfl
theorem xw1320 : Cond.constant RX11 207 (247335) ∈ xwl := xin6 (List.mem_of_getElem? (i := 31) (by decide +kernel)) rfl
theorem xw1321 : Cond.methodLink RL 64 yX11_frame ∈ xwl := xin6 (List.mem_of_getElem? (i := 32) (by decide +kernel)) rfl
theorem xw1322 : Cond.instanceMethod yX11_frame ∈ xwl := xin6 (List.mem_of_getElem? (i := 33) (by decide +kernel)) rfl
theorem xw1323 : Cond.selects RX11 yX11_frame yX11_frame ∈ xwl := xin6 (List.mem_of_getElem? (i := 34) (by decide +kernel)) rfl
theorem xw1324 : Cond.code yX11_frame cX11_frame 3 (some .int) ∈ xwl := xin6 (List.mem_of_getElem? (i := 35) rfl) rfl
theorem xw1325 : Cond.methodLink RX11 223 yX11_isFrame ∈ xwl := xin6 (List.mem_of_getElem? (i := 36) (by decide +kernel)) rfl
theorem xw1327 : Cond.instanceMethod yX11_isFrame ∈ xwl := xin6 (List.mem_of_getElem? (i := 38) (by decide +kernel)) rfl
theorem xw1328 : Cond.code yX11_isFrame cX11_isFrame 2 (some .boolean) ∈ xwl := xin6 (List.mem_of_getElem? (i := 39) rfl) rfl
theorem xw1329 : Cond.methodLink RX11 226 yX11_frameTells ∈ xwl := xin6 (List.mem_of_getElem? (i := 40) (by decide +kernel)) rfl
theorem xw1331 : Cond.instanceMethod yX11_frameTells ∈ xwl := xin6 (List.mem_of_getElem? (i := 42) (by decide +kernel)) rfl
theorem xw1332 : Cond.code yX11_frameTells cX11_frameTells 3 (some .int) ∈ xwl := xin6 (List.mem_of_getElem? (i := 43) rfl) rfl
theorem xw1333 : Cond.methodLink RX11 214 yX11_across ∈ xwl := xin6 (List.mem_of_getElem? (i := 44) (by decide +kernel)) rfl
theorem xw1335 : Cond.instanceMethod yX11_across ∈ xwl := xin6 (List.mem_of_getElem? (i := 46) (by decide +kernel)) rfl
theorem xw1336 : Cond.code yX11_across cX11_across 2 (some .int) ∈ xwl := xin6 (List.mem_of_getElem? (i := 47) rfl) rfl
theorem xw1337 : Cond.methodLink RX11 208 yX11_of ∈ xwl := xin6 (List.mem_of_getElem? (i := 48) (by decide +kernel)) rfl
theorem xw1339 : Cond.instanceMethod yX11_of ∈ xwl := xin6 (List.mem_of_getElem? (i := 50) (by decide +kernel)) rfl
theorem xw1340 : Cond.code yX11_of cX11_of 3 (some .int) ∈ xwl := xin6 (List.mem_of_getElem? (i := 51) rfl) rfl
theorem xw1341 : Cond.methodLink RX11 217 yX11_down ∈ xwl := xin6 (List.mem_of_getElem? (i := 52) (by decide +kernel)) rfl
theorem xw1343 : Cond.instanceMethod yX11_down ∈ xwl := xin6 (List.mem_of_getElem? (i := 54) (by decide +kernel)) rfl
theorem xw1344 : Cond.code yX11_down cX11_down 2 (some .int) ∈ xwl := xin6 (List.mem_of_getElem? (i := 55) rfl) rfl
theorem xw1345 : Cond.methodLink RX11 220 yX11_needX ∈ xwl := xin6 (List.mem_of_getElem? (i := 56) (by decide +kernel)) rfl
theorem xw1347 : Cond.instanceMethod yX11_needX ∈ xwl := xin6 (List.mem_of_getElem? (i := 58) (by decide +kernel)) rfl
theorem xw1348 : Cond.code yX11_needX cX11_needX 3 (some .int) ∈ xwl := xin6 (List.mem_of_getElem? (i := 59) rfl) rfl
theorem xw1349 : Cond.methodLink RX11 211 yX11_edge ∈ xwl := xin6 (List.mem_of_getElem? (i := 60) (by decide +kernel)) rfl
theorem xw1351 : Cond.instanceMethod yX11_edge ∈ xwl := xin6 (List.mem_of_getElem? (i := 62) (by decide +kernel)) rfl
theorem xw1352 : Cond.code yX11_edge cX11_edge 2 (some .int) ∈ xwl := xin6 (List.mem_of_getElem? (i := 63) rfl) rfl
theorem xw1353 : Cond.methodLink RX11 229 yX11_needY ∈ xwl := xin6 (List.mem_of_getElem? (i := 64) (by decide +kernel)) rfl
theorem xw1355 : Cond.instanceMethod yX11_needY ∈ xwl := xin6 (List.mem_of_getElem? (i := 66) (by decide +kernel)) rfl
theorem xw1356 : Cond.code yX11_needY cX11_needY 3 (some .int) ∈ xwl := xin6 (List.mem_of_getElem? (i := 67) rfl) rfl
theorem xw1357 : Cond.methodLink RL 68 yX11_place ∈ xwl := xin6 (List.mem_of_getElem? (i := 68) (by decide +kernel)) rfl
theorem xw1358 : Cond.instanceMethod yX11_place ∈ xwl := xin6 (List.mem_of_getElem? (i := 69) (by decide +kernel)) rfl
theorem xw1359 : Cond.selects RX11 yX11_place yX11_place ∈ xwl := xin6 (List.mem_of_getElem? (i := 70) (by decide +kernel)) rfl
theorem xw1360 : Cond.code yX11_place cX11_place 3 (some .int) ∈ xwl := xin6 (List.mem_of_getElem? (i := 71) rfl) rfl
theorem xw1361 : Cond.methodLink RX11 232 yX11_isSet ∈ xwl := xin6 (List.mem_of_getElem? (i := 72) (by decide +kernel)) rfl
theorem xw1363 : Cond.instanceMethod yX11_isSet ∈ xwl := xin6 (List.mem_of_getElem? (i := 74) (by decide +kernel)) rfl
theorem xw1364 : Cond.code yX11_isSet cX11_isSet 2 (some .boolean) ∈ xwl := xin6 (List.mem_of_getElem? (i := 75) rfl) rfl
theorem xw1365 : Cond.methodLink RL 72 yX11_mark ∈ xwl := xin6 (List.mem_of_getElem? (i := 76) (by decide +kernel)) rfl
theorem xw1366 : Cond.instanceMethod yX11_mark ∈ xwl := xin6 (List.mem_of_getElem? (i := 77) (by decide +kernel)) rfl
theorem xw1367 : Cond.selects RX11 yX11_mark yX11_mark ∈ xwl := xin6 (List.mem_of_getElem? (i := 78) (by decide +kernel)) rfl
theorem xw1368 : Cond.code yX11_mark cX11_mark 5 (some .int) ∈ xwl := xin6 (List.mem_of_getElem? (i := 79) rfl) rfl
theorem xw1369 : Cond.methodLink RL 92 yX11_undo ∈ xwl := xin6 (List.mem_of_getElem? (i := 80) (by decide +kernel)) rfl
theorem xw1370 : Cond.instanceMethod yX11_undo ∈ xwl := xin6 (List.mem_of_getElem? (i := 81) (by decide +kernel)) rfl
theorem xw1371 : Cond.selects RX11 yX11_undo yX11_undo ∈ xwl := xin6 (List.mem_of_getElem? (i := 82) (by decide +kernel)) rfl
theorem xw1372 : Cond.code yX11_undo cX11_undo 4 (some .int) ∈ xwl := xin6 (List.mem_of_getElem? (i := 83) rfl) rfl
theorem xw1373 : Cond.methodLink RL 96 yX11_keep ∈ xwl := xin6 (List.mem_of_getElem? (i := 84) (by decide +kernel)) rfl
theorem xw1374 : Cond.instanceMethod yX11_keep ∈ xwl := xin6 (List.mem_of_getElem? (i := 85) (by decide +kernel)) rfl
theorem xw1375 : Cond.selects RX11 yX11_keep yX11_keep ∈ xwl := xin6 (List.mem_of_getElem? (i := 86) (by decide +kernel)) rfl
theorem xw1376 : Cond.code yX11_keep cX11_keep 3 (some .int) ∈ xwl := xin6 (List.mem_of_getElem? (i := 87) rfl) rfl
theorem xw1377 : Cond.methodLink RL 100 yX11_on ∈ xwl := xin6 (List.mem_of_getElem? (i := 88) (by decide +kernel)) rfl
theorem xw1378 : Cond.instanceMethod yX11_on ∈ xwl := xin6 (List.mem_of_getElem? (i := 89) (by decide +kernel)) rfl
theorem xw1379 : Cond.selects RX11 yX11_on yX11_on ∈ xwl := xin6 (List.mem_of_getElem? (i := 90) (by decide +kernel)) rfl
theorem xw1380 : Cond.code yX11_on cX11_on 3 (some .int) ∈ xwl := xin6 (List.mem_of_getElem? (i := 91) rfl) rfl
theorem xw1381 : Cond.methodLink RL 76 yX11_set ∈ xwl := xin6 (List.mem_of_getElem? (i := 92) (by decide +kernel)) rfl
theorem xw1382 : Cond.instanceMethod yX11_set ∈ xwl := xin6 (List.mem_of_getElem? (i := 93) (by decide +kernel)) rfl
theorem xw1383 : Cond.selects RX11 yX11_set yX11_set ∈ xwl := xin6 (List.mem_of_getElem? (i := 94) (by decide +kernel)) rfl
theorem xw1384 : Cond.code yX11_set cX11_set 3 (some .int) ∈ xwl := xin6 (List.mem_of_getElem? (i := 95) rfl) rfl
theorem xw1385 : Cond.methodLink RX11 286 yX11_findsPage ∈ xwl := xin6 (List.mem_of_getElem? (i := 96) (by decide +kernel)) rfl
theorem xw1387 : Cond.instanceMethod yX11_findsPage ∈ xwl := xin6 (List.mem_of_getElem? (i := 98) (by decide +kernel)) rfl
theorem xw1388 : Cond.code yX11_findsPage cX11_findsPage 4 (some .int) ∈ xwl := xin6 (List.mem_of_getElem? (i := 99) rfl) rfl
theorem xw1389 : Cond.methodLink RX11 270 yX11_pageMany ∈ xwl := xin6 (List.mem_of_getElem? (i := 100) (by decide +kernel)) rfl
theorem xw1391 : Cond.instanceMethod yX11_pageMany ∈ xwl := xin6 (List.mem_of_getElem? (i := 102) (by decide +kernel)) rfl
theorem xw1392 : Cond.code yX11_pageMany cX11_pageMany 3 (some .int) ∈ xwl := xin6 (List.mem_of_getElem? (i := 103) rfl) rfl
theorem xw1393 : Cond.methodLink RX11 274 yX11_layFree ∈ xwl := xin6 (List.mem_of_getElem? (i := 104) (by decide +kernel)) rfl
theorem xw1395 : Cond.instanceMethod yX11_layFree ∈ xwl := xin6 (List.mem_of_getElem? (i := 106) (by decide +kernel)) rfl
theorem xw1396 : Cond.code yX11_layFree cX11_layFree 7 none ∈ xwl := xin6 (List.mem_of_getElem? (i := 107) rfl) rfl
theorem xw1397 : Cond.methodLink RX11 239 yX11_layGrid ∈ xwl := xin6 (List.mem_of_getElem? (i := 108) (by decide +kernel)) rfl
theorem xw1399 : Cond.instanceMethod yX11_layGrid ∈ xwl := xin6 (List.mem_of_getElem? (i := 110) (by decide +kernel)) rfl
theorem xw1400 : Cond.code yX11_layGrid cX11_layGrid 6 none ∈ xwl := xin6 (List.mem_of_getElem? (i := 111) rfl) rfl
theorem xw1401 : Cond.methodLink RX11 235 yX11_isFree ∈ xwl := xin6 (List.mem_of_getElem? (i := 112) (by decide +kernel)) rfl
theorem xw1403 : Cond.instanceMethod yX11_isFree ∈ xwl := xin6 (List.mem_of_getElem? (i := 114) (by decide +kernel)) rfl
theorem xw1404 : Cond.code yX11_isFree cX11_isFree 7 (some .boolean) ∈ xwl := xin6 (List.mem_of_getElem? (i := 115) rfl) rfl
theorem xw1405 : Cond.methodLink RX11 245 yX11_isGreatest ∈ xwl := xin6 (List.mem_of_getElem? (i := 116) (by decide +kernel)) rfl
theorem xw1407 : Cond.instanceMethod yX11_isGreatest ∈ xwl := xin6 (List.mem_of_getElem? (i := 118) (by decide +kernel)) rfl
theorem xw1408 : Cond.code yX11_isGreatest cX11_isGreatest 5 (some .boolean) ∈ xwl := xin6 (List.mem_of_getElem? (i := 119) rfl) rfl
theorem xw1409 : Cond.methodLink RX11 277 yX11_findsRoom ∈ xwl := xin6 (List.mem_of_getElem? (i := 120) (by decide +kernel)) rfl
theorem xw1411 : Cond.instanceMethod yX11_findsRoom ∈ xwl := xin6 (List.mem_of_getElem? (i := 122) (by decide +kernel)) rfl
theorem xw1412 : Cond.code yX11_findsRoom cX11_findsRoom 7 (some .boolean) ∈ xwl := xin6 (List.mem_of_getElem? (i := 123) rfl) rfl
theorem xw1413 : Cond.methodLink RX11 251 yX11_turns ∈ xwl := xin6 (List.mem_of_getElem? (i := 124) (by decide +kernel)) rfl
theorem xw1415 : Cond.instanceMethod yX11_turns ∈ xwl := xin6 (List.mem_of_getElem? (i := 126) (by decide +kernel)) rfl
theorem xw1416 : Cond.code yX11_turns cX11_turns 2 (some .int) ∈ xwl := xin6 (List.mem_of_getElem? (i := 127) rfl) rfl
theorem xw1417 : Cond.methodLink RX11 254 yX11_first ∈ xwl := xin6 (List.mem_of_getElem? (i := 128) (by decide +kernel)) rfl
theorem xw1419 : Cond.instanceMethod yX11_first ∈ xwl := xin6 (List.mem_of_getElem? (i := 130) (by decide +kernel)) rfl
theorem xw1420 : Cond.code yX11_first cX11_first 7 (some .int) ∈ xwl := xin6 (List.mem_of_getElem? (i := 131) rfl) rfl
theorem xw1421 : Cond.methodLink RX11 258 yX11_second ∈ xwl := xin6 (List.mem_of_getElem? (i := 132) (by decide +kernel)) rfl
theorem xw1423 : Cond.instanceMethod yX11_second ∈ xwl := xin6 (List.mem_of_getElem? (i := 134) (by decide +kernel)) rfl
theorem xw1424 : Cond.code yX11_second cX11_second 7 (some .int) ∈ xwl := xin6 (List.mem_of_getElem? (i := 135) rfl) rfl
theorem xw1425 : Cond.methodLink RX11 293 yX11_remember ∈ xwl := xin6 (List.mem_of_getElem? (i := 136) (by decide +kernel)) rfl
theorem xw1427 : Cond.instanceMethod yX11_remember ∈ xwl := xin6 (List.mem_of_getElem? (i := 138) (by decide +kernel)) rfl
theorem xw1428 : Cond.code yX11_remember cX11_remember 2 none ∈ xwl := xin6 (List.mem_of_getElem? (i := 139) rfl) rfl
theorem xw1429 : Cond.methodLink RX11 289 yX11_sets ∈ xwl := xin6 (List.mem_of_getElem? (i := 140) (by decide +kernel)) rfl
theorem xw1431 : Cond.instanceMethod yX11_sets ∈ xwl := xin6 (List.mem_of_getElem? (i := 142) (by decide +kernel)) rfl
theorem xw1432 : Cond.code yX11_sets cX11_sets 3 none ∈ xwl := xin6 (List.mem_of_getElem? (i := 143) rfl) rfl
theorem xw1433 : Cond.methodLink RL 80 yX11_lift ∈ xwl := xin6 (List.mem_of_getElem? (i := 144) (by decide +kernel)) rfl
theorem xw1434 : Cond.instanceMethod yX11_lift ∈ xwl := xin6 (List.mem_of_getElem? (i := 145) (by decide +kernel)) rfl
theorem xw1435 : Cond.selects RX11 yX11_lift yX11_lift ∈ xwl := xin6 (List.mem_of_getElem? (i := 146) (by decide +kernel)) rfl
theorem xw1436 : Cond.code yX11_lift cX11_lift 2 (some .int) ∈ xwl := xin6 (List.mem_of_getElem? (i := 147) rfl) rfl
theorem xw1437 : Cond.methodLink RX11 296 yX11_lifts ∈ xwl := xin6 (List.mem_of_getElem? (i := 148) (by decide +kernel)) rfl
theorem xw1439 : Cond.instanceMethod yX11_lifts ∈ xwl := xin6 (List.mem_of_getElem? (i := 150) (by decide +kernel)) rfl
theorem xw1440 : Cond.code yX11_lifts cX11_lifts 2 none ∈ xwl := xin6 (List.mem_of_getElem? (i := 151) rfl) rfl
theorem xw1441 : Cond.methodLink RL 84 yX11_all ∈ xwl := xin6 (List.mem_of_getElem? (i := 152) (by decide +kernel)) rfl
theorem xw1442 : Cond.instanceMethod yX11_all ∈ xwl := xin6 (List.mem_of_getElem? (i := 153) (by decide +kernel)) rfl
theorem xw1443 : Cond.selects RX11 yX11_all yX11_all ∈ xwl := xin6 (List.mem_of_getElem? (i := 154) (by decide +kernel)) rfl
theorem xw1444 : Cond.code yX11_all cX11_all 2 (some .int) ∈ xwl := xin6 (List.mem_of_getElem? (i := 155) rfl) rfl
theorem xw1445 : Cond.methodLink RX11 299 yX11_setsAll ∈ xwl := xin6 (List.mem_of_getElem? (i := 156) (by decide +kernel)) rfl
theorem xw1447 : Cond.instanceMethod yX11_setsAll ∈ xwl := xin6 (List.mem_of_getElem? (i := 158) (by decide +kernel)) rfl
theorem xw1448 : Cond.code yX11_setsAll cX11_setsAll 6 none ∈ xwl := xin6 (List.mem_of_getElem? (i := 159) rfl) rfl
theorem xw1449 : Cond.methodLink RX11 280 yX11_has ∈ xwl := xin6 (List.mem_of_getElem? (i := 160) (by decide +kernel)) rfl
theorem xw1450 : Cond.static yX11_has ∈ xwl := xin6 (List.mem_of_getElem? (i := 161) (by decide +kernel)) rfl
theorem xw1451 : Cond.code yX11_has cX11_has 2 (some .boolean) ∈ xwl := xin6 (List.mem_of_getElem? (i := 162) rfl) rfl
theorem xw1452 : Cond.methodLink RX11 283 yX11_weight ∈ xwl := xin6 (List.mem_of_getElem? (i := 163) (by decide +kernel)) rfl
theorem xw1454 : Cond.instanceMethod yX11_weight ∈ xwl := xin6 (List.mem_of_getElem? (i := 165) (by decide +kernel)) rfl
theorem xw1455 : Cond.code yX11_weight cX11_weight 5 (some .int) ∈ xwl := xin6 (List.mem_of_getElem? (i := 166) rfl) rfl
theorem xw1456 : Cond.methodLink RL 88 yX11_rule ∈ xwl := xin6 (List.mem_of_getElem? (i := 167) (by decide +kernel)) rfl
theorem xw1457 : Cond.instanceMethod yX11_rule ∈ xwl := xin6 (List.mem_of_getElem? (i := 168) (by decide +kernel)) rfl
theorem xw1458 : Cond.selects RX11 yX11_rule yX11_rule ∈ xwl := xin6 (List.mem_of_getElem? (i := 169) (by decide +kernel)) rfl
theorem xw1459 : Cond.code yX11_rule cX11_rule 3 (some .int) ∈ xwl := xin6 (List.mem_of_getElem? (i := 170) rfl) rfl
theorem xw1460 : Cond.methodLink RL 104 yX11_free ∈ xwl := xin6 (List.mem_of_getElem? (i := 171) (by decide +kernel)) rfl
theorem xw1461 : Cond.instanceMethod yX11_free ∈ xwl := xin6 (List.mem_of_getElem? (i := 172) (by decide +kernel)) rfl
theorem xw1462 : Cond.selects RX11 yX11_free yX11_free ∈ xwl := xin6 (List.mem_of_getElem? (i := 173) (by decide +kernel)) rfl
theorem xw1463 : Cond.code yX11_free cX11_free 4 (some .int) ∈ xwl := xin6 (List.mem_of_getElem? (i := 174) rfl) rfl
theorem xw1464 : Cond.methodLink RX11 302 yX11_isPage ∈ xwl := xin6 (List.mem_of_getElem? (i := 175) (by decide +kernel)) rfl
theorem xw1466 : Cond.instanceMethod yX11_isPage ∈ xwl := xin6 (List.mem_of_getElem? (i := 177) (by decide +kernel)) rfl
theorem xw1467 : Cond.code yX11_isPage cX11_isPage 2 (some .boolean) ∈ xwl := xin6 (List.mem_of_getElem? (i := 178) rfl) rfl
theorem xw1468 : Cond.methodLink RL 108 yX11_seen ∈ xwl := xin6 (List.mem_of_getElem? (i := 179) (by decide +kernel)) rfl
theorem xw1469 : Cond.instanceMethod yX11_seen ∈ xwl := xin6 (List.mem_of_getElem? (i := 180) (by decide +kernel)) rfl
theorem xw1470 : Cond.selects RX11 yX11_seen yX11_seen ∈ xwl := xin6 (List.mem_of_getElem? (i := 181) (by decide +kernel)) rfl
theorem xw1471 : Cond.code yX11_seen cX11_seen 10 (some .int) ∈ xwl := xin6 (List.mem_of_getElem? (i := 182) rfl) rfl
theorem xw1472 : Cond.methodLink RX11 305 yX11_clamped ∈ xwl := xin6 (List.mem_of_getElem? (i := 183) (by decide +kernel)) rfl
theorem xw1473 : Cond.static yX11_clamped ∈ xwl := xin6 (List.mem_of_getElem? (i := 184) (by decide +kernel)) rfl
theorem xw1474 : Cond.code yX11_clamped cX11_clamped 2 (some .int) ∈ xwl := xin6 (List.mem_of_getElem? (i := 185) rfl) rfl
theorem xw1475 : Cond.methodLink RX11 308 yX11_leftOf ∈ xwl := xin6 (List.mem_of_getElem? (i := 186) (by decide +kernel)) rfl
theorem xw1477 : Cond.instanceMethod yX11_leftOf ∈ xwl := xin6 (List.mem_of_getElem? (i := 188) (by decide +kernel)) rfl
theorem xw1478 : Cond.code yX11_leftOf cX11_leftOf 2 (some .int) ∈ xwl := xin6 (List.mem_of_getElem? (i := 189) rfl) rfl
theorem xw1479 : Cond.methodLink RX11 311 yX11_aboveOf ∈ xwl := xin6 (List.mem_of_getElem? (i := 190) (by decide +kernel)) rfl
theorem xw1481 : Cond.instanceMethod yX11_aboveOf ∈ xwl := xin6 (List.mem_of_getElem? (i := 192) (by decide +kernel)) rfl
theorem xw1482 : Cond.code yX11_aboveOf cX11_aboveOf 2 (some .int) ∈ xwl := xin6 (List.mem_of_getElem? (i := 193) rfl) rfl
theorem xw1483 : Cond.methodLink RL 112 yX11_point ∈ xwl := xin6 (List.mem_of_getElem? (i := 194) (by decide +kernel)) rfl
theorem xw1484 : Cond.instanceMethod yX11_point ∈ xwl := xin6 (List.mem_of_getElem? (i := 195) (by decide +kernel)) rfl
theorem xw1485 : Cond.selects RX11 yX11_point yX11_point ∈ xwl := xin6 (List.mem_of_getElem? (i := 196) (by decide +kernel)) rfl
theorem xw1486 : Cond.code yX11_point cX11_point 9 (some .int) ∈ xwl := xin6 (List.mem_of_getElem? (i := 197) rfl) rfl
theorem xw1487 : Cond.methodLink RL 116 yX11_used ∈ xwl := xin6 (List.mem_of_getElem? (i := 198) (by decide +kernel)) rfl
theorem xw1488 : Cond.instanceMethod yX11_used ∈ xwl := xin6 (List.mem_of_getElem? (i := 199) (by decide +kernel)) rfl
theorem xw1489 : Cond.selects RX11 yX11_used yX11_used ∈ xwl := xin6 (List.mem_of_getElem? (i := 200) (by decide +kernel)) rfl
theorem xw1490 : Cond.code yX11_used cX11_used 3 (some .int) ∈ xwl := xin6 (List.mem_of_getElem? (i := 201) rfl) rfl
theorem xw1491 : Cond.methodLink RX11 314 yX11_takenOf ∈ xwl := xin6 (List.mem_of_getElem? (i := 202) (by decide +kernel)) rfl
theorem xw1493 : Cond.instanceMethod yX11_takenOf ∈ xwl := xin6 (List.mem_of_getElem? (i := 204) (by decide +kernel)) rfl
theorem xw1494 : Cond.code yX11_takenOf cX11_takenOf 4 (some .int) ∈ xwl := xin6 (List.mem_of_getElem? (i := 205) rfl) rfl
theorem xw1495 : Cond.methodLink RL 120 yX11_takes ∈ xwl := xin6 (List.mem_of_getElem? (i := 206) (by decide +kernel)) rfl
theorem xw1496 : Cond.instanceMethod yX11_takes ∈ xwl := xin6 (List.mem_of_getElem? (i := 207) (by decide +kernel)) rfl
theorem xw1497 : Cond.selects RX11 yX11_takes yX11_takes ∈ xwl := xin6 (List.mem_of_getElem? (i := 208) (by decide +kernel)) rfl
theorem xw1498 : Cond.code yX11_takes cX11_takes 5 (some .int) ∈ xwl := xin6 (List.mem_of_getElem? (i := 209) rfl) rfl
theorem xw1499 : Cond.methodLink RL 124 yX11_would ∈ xwl := xin6 (List.mem_of_getElem? (i := 210) (by decide +kernel)) rfl
theorem xw1500 : Cond.instanceMethod yX11_would ∈ xwl := xin6 (List.mem_of_getElem? (i := 211) (by decide +kernel)) rfl
theorem xw1501 : Cond.selects RX11 yX11_would yX11_would ∈ xwl := xin6 (List.mem_of_getElem? (i := 212) (by decide +kernel)) rfl
theorem xw1502 : Cond.code yX11_would cX11_would 3 (some .int) ∈ xwl := xin6 (List.mem_of_getElem? (i := 213) rfl) rfl
theorem xw1503 : Cond.methodLink RX11 326 yX11_tries ∈ xwl := xin6 (List.mem_of_getElem? (i := 214) (by decide +kernel)) rfl
theorem xw1505 : Cond.instanceMethod yX11_tries ∈ xwl := xin6 (List.mem_of_getElem? (i := 216) (by decide +kernel)) rfl
theorem xw1506 : Cond.code yX11_tries cX11_tries 4 none ∈ xwl := xin6 (List.mem_of_getElem? (i := 217) rfl) rfl
theorem xw1507 : Cond.methodLink RL 129 yX11_best ∈ xwl := xin6 (List.mem_of_getElem? (i := 218) (by decide +kernel)) rfl
theorem xw1508 : Cond.instanceMethod yX11_best ∈ xwl := xin6 (List.mem_of_getElem? (i := 219) (by decide +kernel)) rfl
theorem xw1509 : Cond.selects RX11 yX11_best yX11_best ∈ xwl := xin6 (List.mem_of_getElem? (i := 220) (by decide +kernel)) rfl
theorem xw1510 : Cond.code yX11_best cX11_best 8 (some .int) ∈ xwl := xin6 (List.mem_of_getElem? (i := 221) rfl) rfl
theorem xw1511 : Cond.methodLink RX11 329 yX11_bitsOf ∈ xwl := xin6 (List.mem_of_getElem? (i := 222) (by decide +kernel)) rfl
theorem xw1512 : Cond.static yX11_bitsOf ∈ xwl := xin6 (List.mem_of_getElem? (i := 223) (by decide +kernel)) rfl
theorem xw1513 : Cond.code yX11_bitsOf cX11_bitsOf 3 (some .int) ∈ xwl := xin6 (List.mem_of_getElem? (i := 224) rfl) rfl
theorem xw1514 : Cond.methodLink RL 133 yX11_lots ∈ xwl := xin6 (List.mem_of_getElem? (i := 225) (by decide +kernel)) rfl
theorem xw1515 : Cond.instanceMethod yX11_lots ∈ xwl := xin6 (List.mem_of_getElem? (i := 226) (by decide +kernel)) rfl
theorem xw1516 : Cond.selects RX11 yX11_lots yX11_lots ∈ xwl := xin6 (List.mem_of_getElem? (i := 227) (by decide +kernel)) rfl
theorem xw1517 : Cond.code yX11_lots cX11_lots 9 (some .int) ∈ xwl := xin6 (List.mem_of_getElem? (i := 228) rfl) rfl
theorem xw1518 : Cond.constant RX11 332 (2147483646) ∈ xwl := xin6 (List.mem_of_getElem? (i := 229) (by decide +kernel)) rfl
theorem xw1519 : Cond.constantLong RX11 333 (48271) ∈ xwl := xin6 (List.mem_of_getElem? (i := 230) (by decide +kernel)) rfl
theorem xw1520 : Cond.constantLong RX11 335 (2147483647) ∈ xwl := xin6 (List.mem_of_getElem? (i := 231) (by decide +kernel)) rfl
theorem xw1521 : Cond.constantLong RX11 337 (8) ∈ xwl := xin6 (List.mem_of_getElem? (i := 232) (by decide +kernel)) rfl
theorem xw1522 : Cond.constantLong RX11 339 (64) ∈ xwl := xin6 (List.mem_of_getElem? (i := 233) (by decide +kernel)) rfl
theorem xw1523 : Cond.constantLong RX11 341 (4) ∈ xwl := xin6 (List.mem_of_getElem? (i := 234) (by decide +kernel)) rfl
theorem xw1524 : Cond.methodLink RX11 343 yX11_setMany ∈ xwl := xin6 (List.mem_of_getElem? (i := 235) (by decide +kernel)) rfl
theorem xw1526 : Cond.instanceMethod yX11_setMany ∈ xwl := xin6 (List.mem_of_getElem? (i := 237) (by decide +kernel)) rfl
theorem xw1527 : Cond.code yX11_setMany cX11_setMany 3 (some .int) ∈ xwl := xin6 (List.mem_of_getElem? (i := 238) rfl) rfl
theorem xw1528 : Cond.methodLink RL 141 yX11_count ∈ xwl := xin6 (List.mem_of_getElem? (i := 239) (by decide +kernel)) rfl
theorem xw1529 : Cond.instanceMethod yX11_count ∈ xwl := xin7 (List.mem_of_getElem? (i := 0) (by decide +kernel)) rfl
theorem xw1530 : Cond.selects RX11 yX11_count yX11_count ∈ xwl := xin7 (List.mem_of_getElem? (i := 1) (by decide +kernel)) rfl
theorem xw1531 : Cond.code yX11_count cX11_count 2 (some .int) ∈ xwl := xin7 (List.mem_of_getElem? (i := 2) rfl) rfl
theorem xw1532 : Cond.methodLink RX11 352 yX11_counted ∈ xwl := xin7 (List.mem_of_getElem? (i := 3) (by decide +kernel)) rfl
theorem xw1534 : Cond.instanceMethod yX11_counted ∈ xwl := xin7 (List.mem_of_getElem? (i := 5) (by decide +kernel)) rfl
theorem xw1535 : Cond.code yX11_counted cX11_counted 4 (some .int) ∈ xwl := xin7 (List.mem_of_getElem? (i := 6) rfl) rfl
theorem xw1536 : Cond.methodLink RX11 346 yX11_allTaken ∈ xwl := xin7 (List.mem_of_getElem? (i := 7) (by decide +kernel)) rfl
theorem xw1538 : Cond.instanceMethod yX11_allTaken ∈ xwl := xin7 (List.mem_of_getElem? (i := 9) (by decide +kernel)) rfl
theorem xw1539 : Cond.code yX11_allTaken cX11_allTaken 3 (some .int) ∈ xwl := xin7 (List.mem_of_getElem? (i := 10) rfl) rfl
theorem xw1540 : Cond.methodLink RX11 349 yX11_allFree ∈ xwl := xin7 (List.mem_of_getElem? (i := 11) (by decide +kernel)) rfl
theorem xw1542 : Cond.instanceMethod yX11_allFree ∈ xwl := xin7 (List.mem_of_getElem? (i := 13) (by decide +kernel)) rfl
theorem xw1543 : Cond.code yX11_allFree cX11_allFree 3 (some .int) ∈ xwl := xin7 (List.mem_of_getElem? (i := 14) rfl) rfl
theorem xw1544 : Cond.methodLink RL 154 yX11_digest ∈ xwl := xin7 (List.mem_of_getElem? (i := 15) (by decide +kernel)) rfl
theorem xw1545 : Cond.instanceMethod yX11_digest ∈ xwl := xin7 (List.mem_of_getElem? (i := 16) (by decide +kernel)) rfl
theorem xw1546 : Cond.selects RX11 yX11_digest yX11_digest ∈ xwl := xin7 (List.mem_of_getElem? (i := 17) (by decide +kernel)) rfl
theorem xw1547 : Cond.code yX11_digest cX11_digest 3 (some .long) ∈ xwl := xin7 (List.mem_of_getElem? (i := 18) rfl) rfl
theorem xw1548 : Cond.constantLong RX11 361 (17) ∈ xwl := xin7 (List.mem_of_getElem? (i := 19) (by decide +kernel)) rfl
theorem xw1549 : Cond.methodLink RX11 363 yX11_adds ∈ xwl := xin7 (List.mem_of_getElem? (i := 20) (by decide +kernel)) rfl
theorem xw1551 : Cond.instanceMethod yX11_adds ∈ xwl := xin7 (List.mem_of_getElem? (i := 22) (by decide +kernel)) rfl
theorem xw1552 : Cond.code yX11_adds cX11_adds 3 none ∈ xwl := xin7 (List.mem_of_getElem? (i := 23) rfl) rfl
theorem xw1553 : Cond.constantLong RX11 355 (31) ∈ xwl := xin7 (List.mem_of_getElem? (i := 24) (by decide +kernel)) rfl
theorem xw1554 : Cond.constantLong RX11 367 (-1) ∈ xwl := xin7 (List.mem_of_getElem? (i := 25) (by decide +kernel)) rfl
theorem xw1555 : Cond.fieldLink "java/lang/String" 9 "java/lang/String" "value" "[B" ∈ xwl := xin7 (List.mem_of_getElem? (i := 26) (by decide +kernel)) rfl
theorem xw1556 : Cond.fieldLink "java/lang/String" 15 "java/lang/String" "coder" "B" ∈ xwl := xin7 (List.mem_of_getElem? (i := 27) (by decide +kernel)) rfl
theorem inX0 : ∀ w ∈ u_ws RX0 TX0 12, w ∈ xwl := by
  intro w hw
  obtain ⟨k, hk, rfl⟩ := List.mem_map.mp hw
  have hk := List.mem_range.mp hk
  match k, hk with
  | 0, _ => exact xw212
  | 1, _ => exact xw214
  | 2, _ => exact xw216
  | 3, _ => exact xw218
  | 4, _ => exact xw220
  | 5, _ => exact xw222
  | 6, _ => exact xw224
  | 7, _ => exact xw226
  | 8, _ => exact xw228
  | 9, _ => exact xw230
  | 10, _ => exact xw232
  | 11, _ => exact xw234
  | k + 12, h => exact absurd h (by omega)
theorem inX1 : ∀ w ∈ u_ws RX1 TX1 2, w ∈ xwl := by
  intro w hw
  obtain ⟨k, hk, rfl⟩ := List.mem_map.mp hw
  have hk := List.mem_range.mp hk
  match k, hk with
  | 0, _ => exact xw141
  | 1, _ => exact xw143
  | k + 2, h => exact absurd h (by omega)
theorem inX2 : ∀ w ∈ u_ws RX2 TX2 2, w ∈ xwl := by
  intro w hw
  obtain ⟨k, hk, rfl⟩ := List.mem_map.mp hw
  have hk := List.mem_range.mp hk
  match k, hk with
  | 0, _ => exact xw347
  | 1, _ => exact xw349
  | k + 2, h => exact absurd h (by omega)
theorem inX3 : ∀ w ∈ u_ws RX3 TX3 8, w ∈ xwl := by
  intro w hw
  obtain ⟨k, hk, rfl⟩ := List.mem_map.mp hw
  have hk := List.mem_range.mp hk
  match k, hk with
  | 0, _ => exact xw282
  | 1, _ => exact xw284
  | 2, _ => exact xw286
  | 3, _ => exact xw288
  | 4, _ => exact xw290
  | 5, _ => exact xw292
  | 6, _ => exact xw294
  | 7, _ => exact xw296
  | k + 8, h => exact absurd h (by omega)
theorem inX4 : ∀ w ∈ u_ws RX4 TX4 5, w ∈ xwl := by
  intro w hw
  obtain ⟨k, hk, rfl⟩ := List.mem_map.mp hw
  have hk := List.mem_range.mp hk
  match k, hk with
  | 0, _ => exact xw333
  | 1, _ => exact xw335
  | 2, _ => exact xw337
  | 3, _ => exact xw339
  | 4, _ => exact xw341
  | k + 5, h => exact absurd h (by omega)
theorem inX5 : ∀ w ∈ u_ws RX5 TX5 2, w ∈ xwl := by
  intro w hw
  obtain ⟨k, hk, rfl⟩ := List.mem_map.mp hw
  have hk := List.mem_range.mp hk
  match k, hk with
  | 0, _ => exact xw365
  | 1, _ => exact xw367
  | k + 2, h => exact absurd h (by omega)
theorem inX6 : ∀ w ∈ u_ws RX6 TX6 2, w ∈ xwl := by
  intro w hw
  obtain ⟨k, hk, rfl⟩ := List.mem_map.mp hw
  have hk := List.mem_range.mp hk
  match k, hk with
  | 0, _ => exact xw310
  | 1, _ => exact xw312
  | k + 2, h => exact absurd h (by omega)
theorem inX7 : ∀ w ∈ u_ws RX7 TX7 5, w ∈ xwl := by
  intro w hw
  obtain ⟨k, hk, rfl⟩ := List.mem_map.mp hw
  have hk := List.mem_range.mp hk
  match k, hk with
  | 0, _ => exact xw263
  | 1, _ => exact xw265
  | 2, _ => exact xw267
  | 3, _ => exact xw269
  | 4, _ => exact xw271
  | k + 5, h => exact absurd h (by omega)
theorem inX8 : ∀ w ∈ u_ws RX8 TX8 3, w ∈ xwl := by
  intro w hw
  obtain ⟨k, hk, rfl⟩ := List.mem_map.mp hw
  have hk := List.mem_range.mp hk
  match k, hk with
  | 0, _ => exact xw153
  | 1, _ => exact xw155
  | 2, _ => exact xw157
  | k + 3, h => exact absurd h (by omega)
theorem inX9 : ∀ w ∈ u_ws RX9 TX9 2, w ∈ xwl := by
  intro w hw
  obtain ⟨k, hk, rfl⟩ := List.mem_map.mp hw
  have hk := List.mem_range.mp hk
  match k, hk with
  | 0, _ => exact xw381
  | 1, _ => exact xw383
  | k + 2, h => exact absurd h (by omega)
theorem inX10 : ∀ w ∈ u_ws RX10 TX10 13, w ∈ xwl := by
  intro w hw
  obtain ⟨k, hk, rfl⟩ := List.mem_map.mp hw
  have hk := List.mem_range.mp hk
  match k, hk with
  | 0, _ => exact xw399
  | 1, _ => exact xw401
  | 2, _ => exact xw403
  | 3, _ => exact xw405
  | 4, _ => exact xw407
  | 5, _ => exact xw409
  | 6, _ => exact xw411
  | 7, _ => exact xw413
  | 8, _ => exact xw415
  | 9, _ => exact xw417
  | 10, _ => exact xw419
  | 11, _ => exact xw421
  | 12, _ => exact xw423
  | k + 13, h => exact absurd h (by omega)
theorem inX11 : ∀ w ∈ u_ws RX11 TX11 45, w ∈ xwl := by
  intro w hw
  obtain ⟨k, hk, rfl⟩ := List.mem_map.mp hw
  have hk := List.mem_range.mp hk
  match k, hk with
  | 0, _ => exact xw1071
  | 1, _ => exact xw1073
  | 2, _ => exact xw1075
  | 3, _ => exact xw1077
  | 4, _ => exact xw1079
  | 5, _ => exact xw1081
  | 6, _ => exact xw1083
  | 7, _ => exact xw1085
  | 8, _ => exact xw1087
  | 9, _ => exact xw1089
  | 10, _ => exact xw1091
  | 11, _ => exact xw1093
  | 12, _ => exact xw1095
  | 13, _ => exact xw1097
  | 14, _ => exact xw1099
  | 15, _ => exact xw1101
  | 16, _ => exact xw1103
  | 17, _ => exact xw1105
  | 18, _ => exact xw1107
  | 19, _ => exact xw1109
  | 20, _ => exact xw1111
  | 21, _ => exact xw1113
  | 22, _ => exact xw1115
  | 23, _ => exact xw1117
  | 24, _ => exact xw1119
  | 25, _ => exact xw1121
  | 26, _ => exact xw1123
  | 27, _ => exact xw1125
  | 28, _ => exact xw1127
  | 29, _ => exact xw1129
  | 30, _ => exact xw1131
  | 31, _ => exact xw1133
  | 32, _ => exact xw1135
  | 33, _ => exact xw1137
  | 34, _ => exact xw1139
  | 35, _ => exact xw1141
  | 36, _ => exact xw1143
  | 37, _ => exact xw1145
  | 38, _ => exact xw1147
  | 39, _ => exact xw1149
  | 40, _ => exact xw1151
  | 41, _ => exact xw1153
  | 42, _ => exact xw1155
  | 43, _ => exact xw1157
  | 44, _ => exact xw1159
  | k + 45, h => exact absurd h (by omega)
end
section
/-! ===== THE WRAPPER: one abstract memory for all cells of the class, the reference and the script; PR: the machine from a frame on, over that memory ===== -/
abbrev xMem : Type := (Nat → Nat → Int32) × (Nat → Nat → Nat) × (Nat → Nat → Int64) × Nat
abbrev xI (M : xMem) (a j : Nat) : Int32 := M.1 a j
abbrev xR (M : xMem) (a j : Nat) : Nat := M.2.1 a j
abbrev xL (M : xMem) (a j : Nat) : Int64 := M.2.2.1 a j
abbrev xN (M : xMem) : Nat := M.2.2.2
def wI (M : xMem) (a j : Nat) (v : Int32) : xMem := (fun b k => if b = a ∧ k = j then v else M.1 b k, M.2)
def wR (M : xMem) (a j : Nat) (v : Nat) : xMem := (M.1, fun b k => if b = a ∧ k = j then v else M.2.1 b k, M.2.2)
def wL (M : xMem) (a j : Nat) (v : Int64) : xMem := (M.1, M.2.1, fun b k => if b = a ∧ k = j then v else M.2.2.1 b k, M.2.2.2)
/-- a whole row of ints anew -/
def wF (M : xMem) (a : Nat) (f : Nat → Int32) : xMem := (fun b => if b = a then f else M.1 b, M.2)
/-- a cell more, all 0 -/
def wN (M : xMem) : xMem := (fun b => if b = M.2.2.2 + 1 then (fun _ => 0) else M.1 b, fun b => if b = M.2.2.2 + 1 then (fun _ => 0) else M.2.1 b, fun b => if b = M.2.2.2 + 1 then (fun _ => 0) else M.2.2.1 b, M.2.2.2 + 1)
theorem xI_wI (M : xMem) (a j b k : Nat) (v : Int32) : (wI M a j v).1 b k = if b = a ∧ k = j then v else M.1 b k := rfl
theorem xR_wI (M : xMem) (a j : Nat) (v : Int32) : (wI M a j v).2 = M.2 := rfl
theorem xI_wR (M : xMem) (a j : Nat) (v : Nat) : (wR M a j v).1 = M.1 := rfl
theorem xR_wR (M : xMem) (a j b k : Nat) (v : Nat) : (wR M a j v).2.1 b k = if b = a ∧ k = j then v else M.2.1 b k := rfl
theorem xL_wR (M : xMem) (a j : Nat) (v : Nat) : (wR M a j v).2.2 = M.2.2 := rfl
theorem xI_wL (M : xMem) (a j : Nat) (v : Int64) : (wL M a j v).1 = M.1 := rfl
theorem xR_wL (M : xMem) (a j : Nat) (v : Int64) : (wL M a j v).2.1 = M.2.1 := rfl
theorem xL_wL (M : xMem) (a j b k : Nat) (v : Int64) : (wL M a j v).2.2.1 b k = if b = a ∧ k = j then v else M.2.2.1 b k := rfl
theorem xN_wL (M : xMem) (a j : Nat) (v : Int64) : (wL M a j v).2.2.2 = M.2.2.2 := rfl
theorem xI_wF (M : xMem) (a b : Nat) (f : Nat → Int32) : (wF M a f).1 b = if b = a then f else M.1 b := rfl
theorem xR_wF (M : xMem) (a : Nat) (f : Nat → Int32) : (wF M a f).2 = M.2 := rfl
/-- the kinds of the cells, by their order of birth: a class (< 20), or an array (20 int, 21 byte, 22 boolean, 23 Row, 24 Text, 25 Story, 26 Frame) and its length; 0 is the script -/
def xKL : List (Nat × Nat) := [(20, 0), (10, 0), (23, 6), (24, 4), (25, 3), (22, 3), (8, 0), (1, 0), (20, 8), (20, 360), (3, 0), (7, 0), (26, 8), (0, 0), (0, 0), (0, 0), (0, 0), (0, 0), (0, 0), (0, 0), (0, 0), (21, 0), (6, 0), (21, 120), (2, 0), (4, 0), (20, 16), (20, 729), (20, 8), (1, 0), (20, 8), (20, 6), (7, 0), (26, 8), (0, 0), (0, 0), (0, 0), (0, 0), (0, 0), (0, 0), (0, 0), (0, 0), (5, 0), (20, 40), (5, 0), (20, 40), (5, 0), (20, 40), (5, 0), (20, 40), (5, 0), (20, 40), (5, 0), (20, 40), (9, 0), (21, 120), (9, 0), (21, 120), (9, 0), (21, 120), (9, 0), (21, 120), (8, 0), (1, 0), (20, 8), (20, 360), (8, 0), (1, 0), (20, 8), (20, 360), (8, 0), (1, 0), (20, 8), (20, 360), (11, 0), (20, 6), (20, 6), (20, 240), (20, 40), (20, 4), (21, 480), (20, 56), (20, 56), (20, 33), (21, 120), (20, 256), (20, 4096), (20, 4096), (20, 4096), (20, 4096), (20, 1320), (20, 3), (20, 4059), (20, 33)]
def xK (a : Nat) : Nat × Nat := xKL.getD a (99, 0)
abbrev xNT : Nat := 93
/-- the slots that the first n cells take -/
def xSlots (a : Nat) : Nat := let k := xK a; if k.1 < 20 then (match vwCl[k.1]? with | some q => q.2.2 | none => 0) else k.2
def xSZ : Nat → Nat
  | 0 => 0
  | n + 1 => xSZ n + xSlots (n + 1)
/-- a field's sort: 0 int, 1 reference, 2 long -/
def xFT : List (List Nat) := [[0, 0, 0, 0, 0, 0, 0, 0, 0, 0, 0, 0], [1, 0], [1, 1], [1, 1, 0, 0, 0, 0, 0, 0], [1, 1, 0, 0, 0], [1, 0], [1, 0], [1, 0, 0, 0, 0], [1, 1, 0], [1, 0], [1, 1, 1, 1, 1, 1, 1, 1, 1, 1, 1, 0, 0], [0, 0, 1, 1, 1, 1, 1, 1, 0, 0, 0, 0, 1, 0, 0, 0, 0, 0, 0, 0, 0, 0, 1, 1, 0, 1, 1, 0, 1, 1, 1, 1, 0, 0, 0, 0, 0, 1, 1, 1, 1, 0, 0, 0, 2]]
def xft (c j : Nat) : Nat := (xFT.getD c []).getD j 0
/-- the surroundings: launch, class numbers and slots, array classes, the first new cell, the script's cell, its length, its ints, the string constants' cells and their bytes' -/
abbrev xE : Type := Launch × va_G × (Nat → ClassId) × Nat × Nat × Nat × (Nat → Int32) × (Nat → Nat) × (Nat → Nat)
abbrev xE.l (E : xE) : Launch := E.1
abbrev xE.D (E : xE) : va_G := E.2.1
abbrev xE.cA (E : xE) : Nat → ClassId := E.2.2.1
abbrev xE.base (E : xE) : Nat := E.2.2.2.1
abbrev xE.b (E : xE) : Nat := E.2.2.2.2.1
abbrev xE.L (E : xE) : Nat := E.2.2.2.2.2.1
abbrev xE.xs (E : xE) : Nat → Int32 := E.2.2.2.2.2.2.1
abbrev xE.sk (E : xE) : Nat → Nat := E.2.2.2.2.2.2.2.1
abbrev xE.sv (E : xE) : Nat → Nat := E.2.2.2.2.2.2.2.2
def ad (E : xE) (a : Nat) : Nat := if a = 0 then E.b else if a < 1000 then E.base + (a - 1) else E.sk (a - 1000)
def cv (E : xE) : Value → Value
  | .ref a => .ref (ad E a)
  | v => v
theorem cv_cat (E : xE) (v : Value) : (cv E v).category = v.category := by cases v <;> rfl
theorem cv_sum (E : xE) (l : List Value) : ((l.map (cv E)).map fun v => v.category).sum = (l.map fun v => v.category).sum := by
  rw [List.map_map]; congr 1; exact List.map_congr_left fun v _ => cv_cat E v
def xrf (E : xE) (r : Nat) : Option Nat := if r = 0 then none else some (ad E r)
def xfv (E : xE) (M : xMem) (a c j : Nat) : Value := if xft c j = 0 then .int (M.1 a j) else if xft c j = 1 then va_rf (xrf E (M.2.1 a j)) else .long (M.2.2.1 a j)
def xnf (c : Nat) : Nat := (xFT.getD c []).length
def ent (E : xE) (M : xMem) (a : Nat) : va_E :=
  if (xK a).1 < 20 then .inr ((xK a).1, (List.range (xnf (xK a).1)).map (fun j => xfv E M a (xK a).1 j))
  else if (xK a).1 < 23 then .inl (E.cA (xK a).1, (xK a).2, .inl (fun j => M.1 a j))
  else .inl (E.cA (xK a).1, (xK a).2, .inr (.inr (.inr (.inr (fun j => xrf E (M.2.1 a j))))))
def wsOf (E : xE) (M : xMem) : va_W := (List.range (xN M)).map (fun i => (E.base + i, ent E M (i + 1)))
def xA (E : xE) : Nat → Prop := fun q => E.base ≤ q
theorem ws_at (E : xE) (M : xMem) {a : Nat} (h1 : 1 ≤ a) (h2 : a ≤ xN M) : (wsOf E M)[a - 1]? = some (E.base + (a - 1), ent E M a) := by
  unfold wsOf
  rw [List.getElem?_map, List.getElem?_range (by omega)]
  simp only [Option.map_some]
  rw [Nat.sub_add_cancel h1]
theorem ws_of {E : xE} {M : xMem} {k : Nat} {q : Nat × va_E} (h : (wsOf E M)[k]? = some q) : k < xN M ∧ q = (E.base + k, ent E M (k + 1)) := by
  unfold wsOf at h
  rw [List.getElem?_map] at h
  cases hr : (List.range (xN M))[k]? with
  | none => rw [hr] at h; cases h
  | some i =>
    rw [hr] at h
    obtain ⟨hk, e⟩ := List.getElem?_eq_some_iff.mp hr
    rw [List.getElem_range] at e
    subst e
    rw [List.length_range] at hk
    exact ⟨hk, (Option.some.inj h).symm⟩
theorem ws_D (E : xE) (M : xMem) : va_D (xA E) (wsOf E M) := by
  refine ⟨fun i j p q hi hj hpq => ?_, fun k q hk => ?_⟩
  · rw [(ws_of hi).2, (ws_of hj).2] at hpq
    exact Nat.add_left_cancel hpq
  · rw [(ws_of hk).2]
    exact Nat.le_add_right _ _
theorem ws_set {E : xE} {M M' : xMem} {a : Nat} (h1 : 1 ≤ a) (hn : xN M' = xN M) (ho : ∀ c, c ≠ a → ent E M' c = ent E M c) : (wsOf E M).set (a - 1) (E.base + (a - 1), ent E M' a) = wsOf E M' := by
  apply List.ext_getElem?
  intro k
  by_cases hk : k = a - 1
  · subst hk
    rw [List.getElem?_set_self']
    by_cases hl : a ≤ xN M
    · rw [ws_at E M h1 hl, ws_at E M' h1 (by omega)]; rfl
    · have e1 : (wsOf E M)[a - 1]? = none := by rw [List.getElem?_eq_none]; simp only [wsOf, List.length_map, List.length_range]; omega
      have e2 : (wsOf E M')[a - 1]? = none := by rw [List.getElem?_eq_none]; simp only [wsOf, List.length_map, List.length_range]; omega
      rw [e1, e2]; rfl
  · rw [List.getElem?_set_ne (Ne.symm hk)]
    by_cases hl : k + 1 ≤ xN M
    · have e1 := ws_at E M (a := k + 1) (by omega) hl
      have e2 := ws_at E M' (a := k + 1) (by omega) (by omega)
      rw [Nat.add_sub_cancel] at e1 e2
      rw [e1, e2, ho (k + 1) (by omega)]
    · have e1 : (wsOf E M)[k]? = none := by rw [List.getElem?_eq_none]; simp only [wsOf, List.length_map, List.length_range]; omega
      have e2 : (wsOf E M')[k]? = none := by rw [List.getElem?_eq_none]; simp only [wsOf, List.length_map, List.length_range]; omega
      rw [e1, e2]
theorem ws_push {E : xE} {M M' : xMem} (hn : xN M' = xN M + 1) (ho : ∀ c, c ≠ xN M + 1 → ent E M' c = ent E M c) : wsOf E M ++ [(E.base + xN M, ent E M' (xN M + 1))] = wsOf E M' := by
  unfold wsOf
  rw [hn, List.range_succ, List.map_append]
  congr 1
  refine List.map_congr_left fun i hi => ?_
  rw [ho (i + 1) (by have := List.mem_range.mp hi; omega)]
/-- the array types of the kinds 20 .. 26 -/
def xTy (k : Nat) : FieldType := match k with
  | 20 => .int
  | 21 => .byte
  | 22 => .boolean
  | 23 => .object RX5
  | 24 => .object RX9
  | 25 => .object RX8
  | _ => .object RX0
def xtys (E : xE) : List (ClassId × FieldType) := [(E.cA 20, .int), (E.cA 21, .byte), (E.cA 22, .boolean), (E.cA 23, .object RX5), (E.cA 24, .object RX9), (E.cA 25, .object RX8), (E.cA 26, .object RX0)]
/-- the private constructors and wordOf, called by a nest mate -/
def xnest : List Cond := [.methodLinkNest RX10 31 yX8_init RX10, .methodLinkNest RX10 38 yX3_init RX10, .methodLinkNest RX7 30 yX0_init RX10, .methodLinkNest RX10 45 yX6_init RX10, .methodLinkNest RX10 52 yX2_init RX10, .methodLinkNest RX2 11 yX4_init RX10, .methodLinkNest RX10 82 yX5_init RX10, .methodLinkNest RX10 83 yX9_init RX10, .methodLinkNest RX3 129 yX10_wordOf RX10, .methodLinkNest RX6 58 yX10_wordOf RX10]
/-- the string constants: who names them where, which one -/
def xstr : List (String × Nat × String × Nat) := [(RX3, 69, "page", 0), (RX3, 87, "bleed", 1), (RX10, 355, "icon", 3), (RX10, 357, "border", 4), (RX10, 359, "logo", 5), (RX10, 361, "frame", 2), (RX6, 19, "page", 0), (RX6, 43, "bleed", 1)]
def xslen : List Nat := [4, 5, 5, 4, 6, 4]
def xsbyt : List (List Int32) := [[112, 97, 103, 101], [98, 108, 101, 101, 100], [102, 114, 97, 109, 101], [105, 99, 111, 110], [98, 111, 114, 100, 101, 114], [108, 111, 103, 111]]
/-- what the tables say, in any state -/
def xKN (E : xE) (U : State) : Prop := va_K E.D vwCl (xtys E) U ∧ (∀ w ∈ xnest, va_Nw w U) ∧ (∀ C ∈ [RX5, RX9, RX8, RX0], va_AO C U) ∧ ∀ q ∈ xstr, vk_R q.1 q.2.1 q.2.2.1 (E.sk q.2.2.2) U
/-- what lies outside: the string constants, two statics -/
def xOut (E : xE) (U : State) (H : Heap) : Prop := vk_S 6 xslen xsbyt E.sk E.sv (xA E) U H ∧ va_Z "java/lang/String" "COMPACT_STRINGS" "Z" (.int 1) (xA E) U H ∧ ∃ t : Nat, va_Z "jdk/internal/util/Preconditions" "SIOOBE_FORMATTER" "Ljava/util/function/BiFunction;" (.ref t) (xA E) U H
/-- the heap holds the memory -/
def Hold (E : xE) (M : xMem) (U : State) (H : Heap) : Prop := (xN M < xNT → H.size = E.base + xN M) ∧ va_P E.D vwCl (wsOf E M) H ∧ va_X E.b E.L E.xs U H ∧ xOut E U H ∧ E.b < E.base ∧ E.base ≤ H.size
end
section
/-- a method: its name, code, locals, answer; how many frames and words of locals what it calls takes -/
abbrev xMD : Type := MethodName × ByteArray × Nat × Option FieldType × Nat × Nat
abbrev xMD.nm (d : xMD) : MethodName := d.1
abbrev xMD.co (d : xMD) : ByteArray := d.2.1
abbrev xMD.ml (d : xMD) : Nat := d.2.2.1
abbrev xMD.rt (d : xMD) : Option FieldType := d.2.2.2.1
abbrev xMD.fr (d : xMD) : Nat := d.2.2.2.2.1
abbrev xMD.lo (d : xMD) : Nat := d.2.2.2.2.2
def xws (d : xMD) : List Cond := .code d.nm d.co d.ml d.rt :: xwl
theorem xKN.same {E : xE} {u U : State} (h : u.vm = U.vm) (k : xKN E u) : xKN E U :=
  ⟨va_K.moved (by rw [h]; exact Vm.Alike.refl _) k.1, fun w hw => va_Nw.same (by revert w; decide) h (k.2.1 w hw), fun C hC => va_AO.moved (by rw [h]; exact Vm.Alike.refl _) (k.2.2.1 C hC), fun q hq => vk_R.same h.symm (k.2.2.2 q hq)⟩
theorem xKN.warm {E : xE} {s U : State} (hW : s.WarmedH U.vm) (k : xKN E s) : xKN E U := by
  refine ⟨va_K.moved hW.alike k.1, fun w hw => ?_, fun C hC => va_AO.moved hW.alike (k.2.2.1 C hC), fun q hq => vk_R.warm hW (k.2.2.2 q hq)⟩
  have h0 := k.2.1 w hw
  have : ∃ (a : String) (i : Nat) (x : MethodName) (h : String), w = .methodLinkNest a i x h := by
    simp only [xnest, List.mem_cons, List.not_mem_nil, or_false] at hw
    rcases hw with rfl | rfl | rfl | rfl | rfl | rfl | rfl | rfl | rfl | rfl <;> exact ⟨_, _, _, _, rfl⟩
  obtain ⟨a, i, x, h, rfl⟩ := this
  exact va_Nw.warmM hW h0
theorem xOut.moved {E : xE} {u U : State} {H : Heap} (hvm : u.vm.Alike U.vm) (h : xOut E u H) : xOut E U H := ⟨h.1.moved hvm, h.2.1.moved hvm, h.2.2.elim fun t ht => ⟨t, ht.moved hvm⟩⟩
theorem xOut.kept {E : xE} {U : State} {H H1 : Heap} (h : xOut E U H) (hq : ∀ a : Nat, a < E.base → H1[a]? = H[a]?) : xOut E U H1 := by
  have hq' : ∀ a : Nat, a < H.size → ¬ xA E a → H1[a]? = H[a]? := fun a _ hA => hq a (Nat.not_le.mp hA)
  exact ⟨h.1.kept hq', h.2.1.kept hq', h.2.2.elim fun t ht => ⟨t, ht.kept hq'⟩⟩
theorem Hold.moved {E : xE} {M : xMem} {u U : State} {H : Heap} (hvm : u.vm.Alike U.vm) (h : Hold E M u H) : Hold E M U H := ⟨h.1, h.2.1, h.2.2.1.moved hvm, h.2.2.2.1.moved hvm, h.2.2.2.2⟩
/-- one cell is another now -/
theorem Hold.set {E : xE} {M M' : xMem} {U : State} {H H' : Heap} {a : Nat} (h : Hold E M U H) (h1 : 1 ≤ a) (h2 : a ≤ xN M) (hn : xN M' = xN M) (ho : ∀ c, c ≠ a → ent E M' c = ent E M c)
    (he : va_at E.D vwCl (E.base + (a - 1), ent E M' a) H') (hz : H'.size = H.size) (oq : ∀ q : Nat, q ≠ E.base + (a - 1) → H'[q]? = H[q]?) : Hold E M' U H' := by
  refine ⟨fun hl => by rw [hz, h.1 (by omega), hn], ?_, h.2.2.1.kept (oq _ (by have := h.2.2.2.2.1; omega)), h.2.2.2.1.kept (fun q hq => oq q (by omega)), h.2.2.2.2.1, by rw [hz]; exact h.2.2.2.2.2⟩
  rw [← ws_set (E := E) h1 hn ho]
  exact h.2.1.set (ws_D E M) (ws_at E M h1 h2) he oq
/-- locals -/
def lvl (E : xE) : Nat → List (Option Value) → List (Nat × Value)
  | _, [] => []
  | i, none :: t => lvl E (i + 1) t
  | i, some v :: t => (i, cv E v) :: lvl E (i + 1) t
theorem lvl_mem {E : xE} : ∀ (lo : List (Option Value)) (i : Nat) (q : Nat × Value), q ∈ lvl E i lo ↔ ∃ j v, lo[j]? = some (some v) ∧ q = (i + j, cv E v)
  | [], i, q => by simp [lvl]
  | none :: t, i, q => by
    rw [lvl, lvl_mem t (i + 1) q]
    constructor
    · rintro ⟨j, v, h1, h2⟩
      exact ⟨j + 1, v, by rw [List.getElem?_cons_succ]; exact h1, by rw [h2]; congr 1; omega⟩
    · rintro ⟨j, v, h1, h2⟩
      cases j with
      | zero => simp at h1
      | succ j => exact ⟨j, v, by rw [List.getElem?_cons_succ] at h1; exact h1, by rw [h2]; congr 1; omega⟩
  | some w :: t, i, q => by
    rw [lvl, List.mem_cons, lvl_mem t (i + 1) q]
    constructor
    · rintro (h | ⟨j, v, h1, h2⟩)
      · exact ⟨0, w, rfl, h⟩
      · exact ⟨j + 1, v, by rw [List.getElem?_cons_succ]; exact h1, by rw [h2]; congr 1; omega⟩
    · rintro ⟨j, v, h1, h2⟩
      cases j with
      | zero => simp at h1; subst h1; exact Or.inl h2
      | succ j => exact Or.inr ⟨j, v, by rw [List.getElem?_cons_succ] at h1; exact h1, by rw [h2]; congr 1; omega⟩
theorem lvl_at {E : xE} {ls : Array Slot} {n : Nat} {lo : List (Option Value)} (h : lv_has ls n (lvl E 0 lo)) {i : Nat} {v : Value} (hi : lo[i]? = some (some v)) : ls[i]? = some (.val (cv E v)) := by
  have := h.2.2 (i, cv E v) ((lvl_mem lo 0 _).mpr ⟨i, v, hi, by rw [Nat.zero_add]⟩)
  exact this
/-- what a local may not be ahead of a store: a long in the place below -/
def xnl : Option Value → Bool
  | some (.long _) => false
  | some (.double _) => false
  | _ => true
theorem lvl_set {E : xE} {ls : Array Slot} {n i : Nat} {lo : List (Option Value)} {v : Value} (hp : ∀ j, j + 1 = i → ∀ w, lo[j]? = some w → xnl w = true) (h : lv_has ls n ((i, cv E v) :: (lvl E 0 lo).filter (fun q => !(q.1 == i) && !(q.1 + 1 == i && q.2.category == 2)))) : lv_has ls n (lvl E 0 (lo.set i (some v))) := by
  refine ⟨h.1, h.2.1, fun q hq => h.2.2 q ?_⟩
  obtain ⟨j, w, h1, h2⟩ := (lvl_mem _ 0 q).mp hq
  rw [Nat.zero_add] at h2
  by_cases hj : j = i
  · subst hj
    rw [List.getElem?_set_self'] at h1
    cases hl : lo[j]? with
    | none => rw [hl] at h1; cases h1
    | some z => rw [hl] at h1; cases h1; rw [h2]; exact List.mem_cons_self
  · rw [List.getElem?_set_ne (Ne.symm hj)] at h1
    refine List.mem_cons_of_mem _ (List.mem_filter.mpr ⟨(lvl_mem lo 0 q).mpr ⟨j, w, h1, by rw [h2, Nat.zero_add]⟩, ?_⟩)
    rw [h2]
    simp only [Bool.and_eq_true, Bool.not_eq_true', beq_eq_false_iff_ne, ne_eq, Bool.and_eq_false_imp, beq_iff_eq]
    refine ⟨hj, fun he => ?_⟩
    have := hp j he (some w) h1
    rw [cv_cat]
    cases w <;> simp_all [xnl, Value.category]
theorem lvl_set2 {E : xE} {ls : Array Slot} {n i : Nat} {lo : List (Option Value)} {v : Value} (hp : ∀ j, j + 1 = i → ∀ w, lo[j]? = some w → xnl w = true) (h : lv_has ls n ((i, cv E v) :: (lvl E 0 lo).filter (fun q => !(q.1 == i) && (!(q.1 == i + 1) && !(q.1 + 1 == i && q.2.category == 2))))) : lv_has ls n (lvl E 0 ((lo.set i (some v)).set (i + 1) none)) := by
  refine ⟨h.1, h.2.1, fun q hq => h.2.2 q ?_⟩
  obtain ⟨j, w, h1, h2⟩ := (lvl_mem _ 0 q).mp hq
  rw [Nat.zero_add] at h2
  by_cases hj1 : j = i + 1
  · subst hj1
    rw [List.getElem?_set_self'] at h1
    cases hl : (lo.set i (some v))[i + 1]? with
    | none => rw [hl] at h1; cases h1
    | some z => rw [hl] at h1; cases h1
  rw [List.getElem?_set_ne (Ne.symm hj1)] at h1
  by_cases hj : j = i
  · subst hj
    rw [List.getElem?_set_self'] at h1
    cases hl : lo[j]? with
    | none => rw [hl] at h1; cases h1
    | some z => rw [hl] at h1; cases h1; rw [h2]; exact List.mem_cons_self
  · rw [List.getElem?_set_ne (Ne.symm hj)] at h1
    refine List.mem_cons_of_mem _ (List.mem_filter.mpr ⟨(lvl_mem lo 0 q).mpr ⟨j, w, h1, by rw [h2, Nat.zero_add]⟩, ?_⟩)
    rw [h2]
    simp only [Bool.and_eq_true, Bool.not_eq_true', beq_eq_false_iff_ne, ne_eq, Bool.and_eq_false_imp, beq_iff_eq]
    refine ⟨hj, hj1, fun he => ?_⟩
    have := hp j he (some w) h1
    rw [cv_cat]
    cases w <;> simp_all [xnl, Value.category]
/-- the method's own: machine, code, tables, room -/
def Cx (E : xE) (d : xMD) (p : Program) (R : Room) (s : State) (m : MethodId) (args : Array Value) (meth : Method) (c : Code) : Prop :=
  p.tables.exec = Jvm.exec ∧ c.code = d.co ∧ c.maxLocals = d.ml ∧ s.vm.findClass d.nm.cls = some m.cls ∧ (∀ w ∈ xwl, w.before args s = true) ∧ xKN E s ∧ d.fr ≤ R.frames ∧ d.lo ≤ R.locals ∧ meth.name = d.nm.name ∧ E.base ≤ s.heap.size
/-- which instruction gives an answer -/
def xrok (d : xMD) (pc : Nat) : Option Value → Prop
  | none => decode d.co pc = .ok (.return_, 1) ∧ d.rt = none
  | some (.int v) => decode d.co pc = .ok (.ireturn, 1) ∧ ∃ ty, d.rt = some ty ∧ narrow ty (.int v) = .int v
  | some (.long _) => decode d.co pc = .ok (.lreturn, 1) ∧ d.rt = some .long
  | some (.ref _) => decode d.co pc = .ok (.areturn, 1) ∧ ∃ ty, d.rt = some ty ∧ ((∃ n, ty = .object n) ∨ ∃ t, ty = .array t)
  | _ => False
/-- the way out -/
def Rt (E : xE) (d : xMD) (ne : Nat) (p : Program) (e : Env) (R : Room) (s : State) (m : MethodId) (args : Array Value) (below : List Frame) (meth : Method) (c : Code) (Z : State → Prop) (Q : Option Value → xMem → Prop) : Prop :=
  ∀ (r : Option Value) (M : xMem) (H : Heap) (ls : Array Slot) (pc : Nat) (locs : List Loc) (cells slots : Nat), Q r M → xN M = ne → xrok d pc r → Hold E M s H → va_S (xA E) s.heap H locs → cells ≤ R.cells → slots ≤ R.slots →
    W p E.l e R s m args below meth c H locs cells slots Z (F0 m pc ls (r.toList.map (cv E)))
/-- all that stands at a point of a method -/
def Sx (E : xE) (d : xMD) (ne : Nat) (lo : List (Option Value)) (M : xMem) (Q : Option Value → xMem → Prop) (p : Program) (e : Env) (R : Room) (s : State) (m : MethodId) (args : Array Value) (below : List Frame) (meth : Method) (c : Code) (H : Heap) (ls : Array Slot) (locs : List Loc) (cells slots : Nat) (Z : State → Prop) : Prop :=
  Cx E d p R s m args meth c ∧ Rt E d ne p e R s m args below meth c Z Q ∧ lv_has ls d.ml (lvl E 0 lo) ∧ lo.length = d.ml ∧ Hold E M s H ∧ va_S (xA E) s.heap H locs ∧ xN M ≤ ne ∧ cells + (ne - xN M) ≤ R.cells ∧ slots + (xSZ ne - xSZ (xN M)) ≤ R.slots
def PR (E : xE) (d : xMD) (ne pc : Nat) (lo : List (Option Value)) (st : List Value) (M : xMem) (Q : Option Value → xMem → Prop) : Prop :=
  ∀ (p : Program) (e : Env) (R : Room) (s : State) (m : MethodId) (args : Array Value) (below : List Frame) (meth : Method) (c : Code) (H : Heap) (ls : Array Slot) (locs : List Loc) (cells slots : Nat) (Z : State → Prop),
    Sx E d ne lo M Q p e R s m args below meth c H ls locs cells slots Z → W p E.l e R s m args below meth c H locs cells slots Z (F0 m pc ls (st.map (cv E)))
section RULES
variable {E : xE} {d : xMD} {ne pc : Nat} {lo : List (Option Value)} {st : List Value} {M : xMem} {Q : Option Value → xMem → Prop}
theorem px_q {Q' : Option Value → xMem → Prop} (h : ∀ r M', Q' r M' → Q r M') (k : PR E d ne pc lo st M Q') : PR E d ne pc lo st M Q := by
  intro p e R s m args below meth c H ls locs cells slots Z S
  exact k _ _ _ _ _ _ _ _ _ _ _ _ _ _ _ ⟨S.1, fun r M H ls pc locs cells slots hq => S.2.1 r M H ls pc locs cells slots (h r M hq), S.2.2⟩
theorem px_iadd {x y : Int32} (hd : decode d.co pc = .ok (.iadd, 1)) (k : PR E d ne (pc + 1) lo (.int (x + y) :: st) M Q) : PR E d ne pc lo (.int y :: .int x :: st) M Q := by
  intro p e R s m args below meth c H ls locs cells slots Z S
  exact lv_iadd S.1.1 S.1.2.1 hd (k _ _ _ _ _ _ _ _ _ _ _ _ _ _ _ S)
theorem px_isub {x y : Int32} (hd : decode d.co pc = .ok (.isub, 1)) (k : PR E d ne (pc + 1) lo (.int (x - y) :: st) M Q) : PR E d ne pc lo (.int y :: .int x :: st) M Q := by
  intro p e R s m args below meth c H ls locs cells slots Z S
  exact lv_isub S.1.1 S.1.2.1 hd (k _ _ _ _ _ _ _ _ _ _ _ _ _ _ _ S)
theorem px_imul {x y : Int32} (hd : decode d.co pc = .ok (.imul, 1)) (k : PR E d ne (pc + 1) lo (.int (x * y) :: st) M Q) : PR E d ne pc lo (.int y :: .int x :: st) M Q := by
  intro p e R s m args below meth c H ls locs cells slots Z S
  exact lv_imul S.1.1 S.1.2.1 hd (k _ _ _ _ _ _ _ _ _ _ _ _ _ _ _ S)
theorem px_iand {x y : Int32} (hd : decode d.co pc = .ok (.iand, 1)) (k : PR E d ne (pc + 1) lo (.int (x &&& y) :: st) M Q) : PR E d ne pc lo (.int y :: .int x :: st) M Q := by
  intro p e R s m args below meth c H ls locs cells slots Z S
  exact lv_iand S.1.1 S.1.2.1 hd (k _ _ _ _ _ _ _ _ _ _ _ _ _ _ _ S)
theorem px_ior {x y : Int32} (hd : decode d.co pc = .ok (.ior, 1)) (k : PR E d ne (pc + 1) lo (.int (x ||| y) :: st) M Q) : PR E d ne pc lo (.int y :: .int x :: st) M Q := by
  intro p e R s m args below meth c H ls locs cells slots Z S
  exact lv_ior S.1.1 S.1.2.1 hd (k _ _ _ _ _ _ _ _ _ _ _ _ _ _ _ S)
theorem px_ixor {x y : Int32} (hd : decode d.co pc = .ok (.ixor, 1)) (k : PR E d ne (pc + 1) lo (.int (x ^^^ y) :: st) M Q) : PR E d ne pc lo (.int y :: .int x :: st) M Q := by
  intro p e R s m args below meth c H ls locs cells slots Z S
  exact lv_ixor S.1.1 S.1.2.1 hd (k _ _ _ _ _ _ _ _ _ _ _ _ _ _ _ S)
theorem px_ishl {x y : Int32} (hd : decode d.co pc = .ok (.ishl, 1)) (k : PR E d ne (pc + 1) lo (.int (x <<< (y &&& 31)) :: st) M Q) : PR E d ne pc lo (.int y :: .int x :: st) M Q := by
  intro p e R s m args below meth c H ls locs cells slots Z S
  exact lv_ishl S.1.1 S.1.2.1 hd (k _ _ _ _ _ _ _ _ _ _ _ _ _ _ _ S)
theorem px_ishr {x y : Int32} (hd : decode d.co pc = .ok (.ishr, 1)) (k : PR E d ne (pc + 1) lo (.int (x >>> (y &&& 31)) :: st) M Q) : PR E d ne pc lo (.int y :: .int x :: st) M Q := by
  intro p e R s m args below meth c H ls locs cells slots Z S
  exact lv_ishr S.1.1 S.1.2.1 hd (k _ _ _ _ _ _ _ _ _ _ _ _ _ _ _ S)
theorem px_idiv {x y : Int32} (hd : decode d.co pc = .ok (.idiv, 1)) (h0 : ¬ y = 0) (k : PR E d ne (pc + 1) lo (.int (x / y) :: st) M Q) : PR E d ne pc lo (.int y :: .int x :: st) M Q := by
  intro p e R s m args below meth c H ls locs cells slots Z S
  exact lv_idiv S.1.1 S.1.2.1 hd h0 (k _ _ _ _ _ _ _ _ _ _ _ _ _ _ _ S)
theorem px_irem {x y : Int32} (hd : decode d.co pc = .ok (.irem, 1)) (h0 : ¬ y = 0) (k : PR E d ne (pc + 1) lo (.int (x - x / y * y) :: st) M Q) : PR E d ne pc lo (.int y :: .int x :: st) M Q := by
  intro p e R s m args below meth c H ls locs cells slots Z S
  exact lv_irem S.1.1 S.1.2.1 hd h0 (k _ _ _ _ _ _ _ _ _ _ _ _ _ _ _ S)
theorem px_ladd {x y : Int64} (hd : decode d.co pc = .ok (.ladd, 1)) (k : PR E d ne (pc + 1) lo (.long (x + y) :: st) M Q) : PR E d ne pc lo (.long y :: .long x :: st) M Q := by
  intro p e R s m args below meth c H ls locs cells slots Z S
  exact lv_ladd S.1.1 S.1.2.1 hd (k _ _ _ _ _ _ _ _ _ _ _ _ _ _ _ S)
theorem px_lsub {x y : Int64} (hd : decode d.co pc = .ok (.lsub, 1)) (k : PR E d ne (pc + 1) lo (.long (x - y) :: st) M Q) : PR E d ne pc lo (.long y :: .long x :: st) M Q := by
  intro p e R s m args below meth c H ls locs cells slots Z S
  exact lv_lsub S.1.1 S.1.2.1 hd (k _ _ _ _ _ _ _ _ _ _ _ _ _ _ _ S)
theorem px_lmul {x y : Int64} (hd : decode d.co pc = .ok (.lmul, 1)) (k : PR E d ne (pc + 1) lo (.long (x * y) :: st) M Q) : PR E d ne pc lo (.long y :: .long x :: st) M Q := by
  intro p e R s m args below meth c H ls locs cells slots Z S
  exact lv_lmul S.1.1 S.1.2.1 hd (k _ _ _ _ _ _ _ _ _ _ _ _ _ _ _ S)
theorem px_ldiv {x y : Int64} (hd : decode d.co pc = .ok (.ldiv, 1)) (h0 : ¬ y = 0) (k : PR E d ne (pc + 1) lo (.long (x / y) :: st) M Q) : PR E d ne pc lo (.long y :: .long x :: st) M Q := by
  intro p e R s m args below meth c H ls locs cells slots Z S
  exact lv_ldiv S.1.1 S.1.2.1 hd h0 (k _ _ _ _ _ _ _ _ _ _ _ _ _ _ _ S)
theorem px_lrem {x y : Int64} (hd : decode d.co pc = .ok (.lrem, 1)) (h0 : ¬ y = 0) (k : PR E d ne (pc + 1) lo (.long (x - x / y * y) :: st) M Q) : PR E d ne pc lo (.long y :: .long x :: st) M Q := by
  intro p e R s m args below meth c H ls locs cells slots Z S
  exact lv_lrem S.1.1 S.1.2.1 hd h0 (k _ _ _ _ _ _ _ _ _ _ _ _ _ _ _ S)
theorem px_ineg {x : Int32} (hd : decode d.co pc = .ok (.ineg, 1)) (k : PR E d ne (pc + 1) lo (.int (0 - x) :: st) M Q) : PR E d ne pc lo (.int x :: st) M Q := by
  intro p e R s m args below meth c H ls locs cells slots Z S
  exact lv_ineg S.1.1 S.1.2.1 hd (k _ _ _ _ _ _ _ _ _ _ _ _ _ _ _ S)
theorem px_i2l {x : Int32} (hd : decode d.co pc = .ok (.i2l, 1)) (k : PR E d ne (pc + 1) lo (.long x.toInt64 :: st) M Q) : PR E d ne pc lo (.int x :: st) M Q := by
  intro p e R s m args below meth c H ls locs cells slots Z S
  exact lv_i2l S.1.1 S.1.2.1 hd rfl (k _ _ _ _ _ _ _ _ _ _ _ _ _ _ _ S)
theorem px_l2i {x : Int64} (hd : decode d.co pc = .ok (.l2i, 1)) (k : PR E d ne (pc + 1) lo (.int x.toInt32 :: st) M Q) : PR E d ne pc lo (.long x :: st) M Q := by
  intro p e R s m args below meth c H ls locs cells slots Z S
  exact lv_l2i S.1.1 S.1.2.1 hd rfl (k _ _ _ _ _ _ _ _ _ _ _ _ _ _ _ S)
theorem px_i2b {x : Int32} (hd : decode d.co pc = .ok (.i2b, 1)) (k : PR E d ne (pc + 1) lo (.int x.toInt8.toInt32 :: st) M Q) : PR E d ne pc lo (.int x :: st) M Q := by
  intro p e R s m args below meth c H ls locs cells slots Z S
  exact lv_i2b S.1.1 S.1.2.1 hd rfl (k _ _ _ _ _ _ _ _ _ _ _ _ _ _ _ S)
theorem px_iconst {n : Int} {v : Int32} (hd : decode d.co pc = .ok (.iconst n, 1)) (hv : Int32.ofInt n = v) (k : PR E d ne (pc + 1) lo (.int v :: st) M Q) : PR E d ne pc lo (st) M Q := by
  intro p e R s m args below meth c H ls locs cells slots Z S
  exact lv_iconst S.1.1 S.1.2.1 hd hv (k _ _ _ _ _ _ _ _ _ _ _ _ _ _ _ S)
theorem px_lconst {n : Fin 2} {v : Int64} (hd : decode d.co pc = .ok (.lconst n, 1)) (hv : Int64.ofNat (n : Nat) = v) (k : PR E d ne (pc + 1) lo (.long v :: st) M Q) : PR E d ne pc lo (st) M Q := by
  intro p e R s m args below meth c H ls locs cells slots Z S
  exact lv_lconst S.1.1 S.1.2.1 hd hv (k _ _ _ _ _ _ _ _ _ _ _ _ _ _ _ S)
theorem px_bipush {n : Int} {v : Int32} (hd : decode d.co pc = .ok (.bipush n, 2)) (hv : (Int8.ofInt n).toInt32 = v) (k : PR E d ne (pc + 2) lo (.int v :: st) M Q) : PR E d ne pc lo (st) M Q := by
  intro p e R s m args below meth c H ls locs cells slots Z S
  exact lv_bipush S.1.1 S.1.2.1 hd hv (k _ _ _ _ _ _ _ _ _ _ _ _ _ _ _ S)
theorem px_sipush {n : Int} {v : Int32} (hd : decode d.co pc = .ok (.sipush n, 3)) (hv : (Int16.ofInt n).toInt32 = v) (k : PR E d ne (pc + 3) lo (.int v :: st) M Q) : PR E d ne pc lo (st) M Q := by
  intro p e R s m args below meth c H ls locs cells slots Z S
  exact lv_sipush S.1.1 S.1.2.1 hd hv (k _ _ _ _ _ _ _ _ _ _ _ _ _ _ _ S)
theorem px_dupi {x : Int32} (hd : decode d.co pc = .ok (.dup, 1)) (k : PR E d ne (pc + 1) lo (.int x :: .int x :: st) M Q) : PR E d ne pc lo (.int x :: st) M Q := by
  intro p e R s m args below meth c H ls locs cells slots Z S
  exact lv_dup S.1.1 S.1.2.1 hd rfl (k _ _ _ _ _ _ _ _ _ _ _ _ _ _ _ S)
theorem px_dupa {x : Nat} (hd : decode d.co pc = .ok (.dup, 1)) (k : PR E d ne (pc + 1) lo (.ref x :: .ref x :: st) M Q) : PR E d ne pc lo (.ref x :: st) M Q := by
  intro p e R s m args below meth c H ls locs cells slots Z S
  exact lv_dup S.1.1 S.1.2.1 hd rfl (k _ _ _ _ _ _ _ _ _ _ _ _ _ _ _ S)
theorem px_dup2 {x : Int32} {a : Nat} (hd : decode d.co pc = .ok (.dup2, 1)) (k : PR E d ne (pc + 1) lo (.int x :: .ref a :: .int x :: .ref a :: st) M Q) : PR E d ne pc lo (.int x :: .ref a :: st) M Q := by
  intro p e R s m args below meth c H ls locs cells slots Z S
  exact lv_dup2_11 S.1.1 S.1.2.1 hd rfl rfl (k _ _ _ _ _ _ _ _ _ _ _ _ _ _ _ S)
theorem px_lcmp {x y : Int64} (hd : decode d.co pc = .ok (.lcmp, 1)) (k : PR E d ne (pc + 1) lo (.int (lg_cmp x y) :: st) M Q) : PR E d ne pc lo (.long y :: .long x :: st) M Q := by
  intro p e R s m args below meth c H ls locs cells slots Z S
  exact W.lcmp S.1.1 S.1.2.1 hd (k _ _ _ _ _ _ _ _ _ _ _ _ _ _ _ S)
theorem px_iload_n {n : Fin 4} {i : Nat} {x : Int32} (hd : decode d.co pc = .ok (.iload_n n, 1)) (hi : (n : Nat) = i) (hl : lo[i]? = some (some (.int x))) (k : PR E d ne (pc + 1) lo (.int x :: st) M Q) : PR E d ne pc lo st M Q := by
  intro p e R s m args below meth c H ls locs cells slots Z S
  exact lv_iload_n S.1.1 S.1.2.1 hd hi (lvl_at S.2.2.1 hl) (k _ _ _ _ _ _ _ _ _ _ _ _ _ _ _ S)
theorem px_iload {i : Nat} {x : Int32} (hd : decode d.co pc = .ok (.iload i, 2)) (hl : lo[i]? = some (some (.int x))) (k : PR E d ne (pc + 2) lo (.int x :: st) M Q) : PR E d ne pc lo st M Q := by
  intro p e R s m args below meth c H ls locs cells slots Z S
  exact lv_iload S.1.1 S.1.2.1 hd (lvl_at S.2.2.1 hl) (k _ _ _ _ _ _ _ _ _ _ _ _ _ _ _ S)
theorem px_lload_n {n : Fin 4} {i : Nat} {x : Int64} (hd : decode d.co pc = .ok (.lload_n n, 1)) (hi : (n : Nat) = i) (hl : lo[i]? = some (some (.long x))) (k : PR E d ne (pc + 1) lo (.long x :: st) M Q) : PR E d ne pc lo st M Q := by
  intro p e R s m args below meth c H ls locs cells slots Z S
  exact lv_lload_n S.1.1 S.1.2.1 hd hi (lvl_at S.2.2.1 hl) (k _ _ _ _ _ _ _ _ _ _ _ _ _ _ _ S)
theorem px_lload {i : Nat} {x : Int64} (hd : decode d.co pc = .ok (.lload i, 2)) (hl : lo[i]? = some (some (.long x))) (k : PR E d ne (pc + 2) lo (.long x :: st) M Q) : PR E d ne pc lo st M Q := by
  intro p e R s m args below meth c H ls locs cells slots Z S
  exact lv_lload S.1.1 S.1.2.1 hd (lvl_at S.2.2.1 hl) (k _ _ _ _ _ _ _ _ _ _ _ _ _ _ _ S)
theorem px_aload_n {n : Fin 4} {i : Nat} {x : Nat} (hd : decode d.co pc = .ok (.aload_n n, 1)) (hi : (n : Nat) = i) (hl : lo[i]? = some (some (.ref x))) (k : PR E d ne (pc + 1) lo (.ref x :: st) M Q) : PR E d ne pc lo st M Q := by
  intro p e R s m args below meth c H ls locs cells slots Z S
  exact lv_aload_n S.1.1 S.1.2.1 hd hi (lvl_at S.2.2.1 hl) (k _ _ _ _ _ _ _ _ _ _ _ _ _ _ _ S)
theorem px_aload {i : Nat} {x : Nat} (hd : decode d.co pc = .ok (.aload i, 2)) (hl : lo[i]? = some (some (.ref x))) (k : PR E d ne (pc + 2) lo (.ref x :: st) M Q) : PR E d ne pc lo st M Q := by
  intro p e R s m args below meth c H ls locs cells slots Z S
  exact lv_aload S.1.1 S.1.2.1 hd (lvl_at S.2.2.1 hl) (k _ _ _ _ _ _ _ _ _ _ _ _ _ _ _ S)
/-- ahead of a store at i: no long lies in the place below -/
def xpb (lo : List (Option Value)) : Nat → Bool
  | 0 => true
  | i + 1 => match lo[i]? with
    | some w => xnl w
    | none => true
theorem xpb_use {lo : List (Option Value)} {i : Nat} (h : xpb lo i = true) : ∀ j, j + 1 = i → ∀ w, lo[j]? = some w → xnl w = true := by
  intro j hj w hw
  subst hj
  simp only [xpb, hw] at h
  exact h
theorem px_istore_n {lo' : List (Option Value)} {n : Fin 4} {i : Nat} {x : Int32} (hd : decode d.co pc = .ok (.istore_n n, 1)) (hi : (n : Nat) = i) (hp : xpb lo i = true) (hn : i < lo.length) (hl : lo.set i (some (.int x)) = lo') (k : PR E d ne (pc + 1) lo' st M Q) : PR E d ne pc lo (.int x :: st) M Q := by
  intro p e R s m args below meth c H ls locs cells slots Z S
  obtain ⟨hC, hR, hl0, hlen, hrest⟩ := S
  refine lv_istore_n hC.1 hC.2.1 hd hi hl0 (by rw [← hlen]; exact hn) rfl (fun ls' h' => ?_)
  subst hl
  exact k _ _ _ _ _ _ _ _ _ _ _ _ _ _ _ ⟨hC, hR, lvl_set (v := .int x) (xpb_use hp) h', by rw [List.length_set]; exact hlen, hrest⟩
theorem px_istore {lo' : List (Option Value)} {i : Nat} {x : Int32} (hd : decode d.co pc = .ok (.istore i, 2)) (hp : xpb lo i = true) (hn : i < lo.length) (hl : lo.set i (some (.int x)) = lo') (k : PR E d ne (pc + 2) lo' st M Q) : PR E d ne pc lo (.int x :: st) M Q := by
  intro p e R s m args below meth c H ls locs cells slots Z S
  obtain ⟨hC, hR, hl0, hlen, hrest⟩ := S
  refine lv_istore hC.1 hC.2.1 hd hl0 (by rw [← hlen]; exact hn) rfl (fun ls' h' => ?_)
  subst hl
  exact k _ _ _ _ _ _ _ _ _ _ _ _ _ _ _ ⟨hC, hR, lvl_set (v := .int x) (xpb_use hp) h', by rw [List.length_set]; exact hlen, hrest⟩
theorem px_astore_n {lo' : List (Option Value)} {n : Fin 4} {i : Nat} {x : Nat} (hd : decode d.co pc = .ok (.astore_n n, 1)) (hi : (n : Nat) = i) (hp : xpb lo i = true) (hn : i < lo.length) (hl : lo.set i (some (.ref x)) = lo') (k : PR E d ne (pc + 1) lo' st M Q) : PR E d ne pc lo (.ref x :: st) M Q := by
  intro p e R s m args below meth c H ls locs cells slots Z S
  obtain ⟨hC, hR, hl0, hlen, hrest⟩ := S
  refine lv_astore_n hC.1 hC.2.1 hd hi hl0 (by rw [← hlen]; exact hn) rfl (fun ls' h' => ?_)
  subst hl
  exact k _ _ _ _ _ _ _ _ _ _ _ _ _ _ _ ⟨hC, hR, lvl_set (v := .ref x) (xpb_use hp) h', by rw [List.length_set]; exact hlen, hrest⟩
theorem px_astore {lo' : List (Option Value)} {i : Nat} {x : Nat} (hd : decode d.co pc = .ok (.astore i, 2)) (hp : xpb lo i = true) (hn : i < lo.length) (hl : lo.set i (some (.ref x)) = lo') (k : PR E d ne (pc + 2) lo' st M Q) : PR E d ne pc lo (.ref x :: st) M Q := by
  intro p e R s m args below meth c H ls locs cells slots Z S
  obtain ⟨hC, hR, hl0, hlen, hrest⟩ := S
  refine lv_astore hC.1 hC.2.1 hd hl0 (by rw [← hlen]; exact hn) rfl (fun ls' h' => ?_)
  subst hl
  exact k _ _ _ _ _ _ _ _ _ _ _ _ _ _ _ ⟨hC, hR, lvl_set (v := .ref x) (xpb_use hp) h', by rw [List.length_set]; exact hlen, hrest⟩
theorem px_lstore_n {lo' : List (Option Value)} {n : Fin 4} {i : Nat} {x : Int64} (hd : decode d.co pc = .ok (.lstore_n n, 1)) (hi : (n : Nat) = i) (hp : xpb lo i = true) (hn : i + 1 < lo.length) (hl : (lo.set i (some (.long x))).set (i + 1) none = lo') (k : PR E d ne (pc + 1) lo' st M Q) : PR E d ne pc lo (.long x :: st) M Q := by
  intro p e R s m args below meth c H ls locs cells slots Z S
  obtain ⟨hC, hR, hl0, hlen, hrest⟩ := S
  refine lv_lstore_n hC.1 hC.2.1 hd hi hl0 (by rw [← hlen]; exact hn) rfl (fun ls' h' => ?_)
  subst hl
  exact k _ _ _ _ _ _ _ _ _ _ _ _ _ _ _ ⟨hC, hR, lvl_set2 (v := .long x) (xpb_use hp) h', by rw [List.length_set, List.length_set]; exact hlen, hrest⟩
theorem px_lstore {lo' : List (Option Value)} {i : Nat} {x : Int64} (hd : decode d.co pc = .ok (.lstore i, 2)) (hp : xpb lo i = true) (hn : i + 1 < lo.length) (hl : (lo.set i (some (.long x))).set (i + 1) none = lo') (k : PR E d ne (pc + 2) lo' st M Q) : PR E d ne pc lo (.long x :: st) M Q := by
  intro p e R s m args below meth c H ls locs cells slots Z S
  obtain ⟨hC, hR, hl0, hlen, hrest⟩ := S
  refine lv_lstore hC.1 hC.2.1 hd hl0 (by rw [← hlen]; exact hn) rfl (fun ls' h' => ?_)
  subst hl
  exact k _ _ _ _ _ _ _ _ _ _ _ _ _ _ _ ⟨hC, hR, lvl_set2 (v := .long x) (xpb_use hp) h', by rw [List.length_set, List.length_set]; exact hlen, hrest⟩
theorem px_iinc {lo' : List (Option Value)} {i : Nat} {n : Int} {x v : Int32} (hd : decode d.co pc = .ok (.iinc i n, 3)) (hv : lo[i]? = some (some (.int x))) (hx : x + Int32.ofInt n = v) (hp : xpb lo i = true) (hl : lo.set i (some (.int v)) = lo') (k : PR E d ne (pc + 3) lo' st M Q) : PR E d ne pc lo st M Q := by
  intro p e R s m args below meth c H ls locs cells slots Z S
  obtain ⟨hC, hR, hl0, hlen, hrest⟩ := S
  obtain ⟨kk, hk⟩ := List.getElem?_of_mem ((lvl_mem (E := E) lo 0 (i, .int x)).mpr ⟨i, .int x, hv, by rw [Nat.zero_add]; rfl⟩)
  refine lv_iinc hC.1 hC.2.1 hd hl0 hk hx (by rw [← hlen]; exact (List.getElem?_eq_some_iff.mp hv).1) rfl (fun ls' h' => ?_)
  subst hl
  exact k _ _ _ _ _ _ _ _ _ _ _ _ _ _ _ ⟨hC, hR, lvl_set (v := .int v) (xpb_use hp) h', by rw [List.length_set]; exact hlen, hrest⟩
theorem px_icmp_eq {x y : Int32} {off : Int} (tgt : Nat) (hd : decode d.co pc = .ok (.if_icmp .eq off, 3)) (ht : (pc : Int) + off = (tgt : Int)) (kt : x = y → PR E d ne tgt lo st M Q) (kf : ¬ (x = y) → PR E d ne (pc + 3) lo st M Q) : PR E d ne pc lo (.int y :: .int x :: st) M Q := by
  intro p e R s m args below meth c H ls locs cells slots Z S
  exact lv_icmp_eq S.1.1 S.1.2.1 hd ht (fun h => kt h _ _ _ _ _ _ _ _ _ _ _ _ _ _ _ S) (fun h => kf h _ _ _ _ _ _ _ _ _ _ _ _ _ _ _ S)
theorem px_icmp_lt {x y : Int32} {off : Int} (tgt : Nat) (hd : decode d.co pc = .ok (.if_icmp .lt off, 3)) (ht : (pc : Int) + off = (tgt : Int)) (kt : x < y → PR E d ne tgt lo st M Q) (kf : ¬ (x < y) → PR E d ne (pc + 3) lo st M Q) : PR E d ne pc lo (.int y :: .int x :: st) M Q := by
  intro p e R s m args below meth c H ls locs cells slots Z S
  exact lv_icmp_lt S.1.1 S.1.2.1 hd ht (fun h => kt h _ _ _ _ _ _ _ _ _ _ _ _ _ _ _ S) (fun h => kf h _ _ _ _ _ _ _ _ _ _ _ _ _ _ _ S)
theorem px_icmp_ge {x y : Int32} {off : Int} (tgt : Nat) (hd : decode d.co pc = .ok (.if_icmp .ge off, 3)) (ht : (pc : Int) + off = (tgt : Int)) (kt : y ≤ x → PR E d ne tgt lo st M Q) (kf : ¬ (y ≤ x) → PR E d ne (pc + 3) lo st M Q) : PR E d ne pc lo (.int y :: .int x :: st) M Q := by
  intro p e R s m args below meth c H ls locs cells slots Z S
  exact lv_icmp_ge S.1.1 S.1.2.1 hd ht (fun h => kt h _ _ _ _ _ _ _ _ _ _ _ _ _ _ _ S) (fun h => kf h _ _ _ _ _ _ _ _ _ _ _ _ _ _ _ S)
theorem px_icmp_gt {x y : Int32} {off : Int} (tgt : Nat) (hd : decode d.co pc = .ok (.if_icmp .gt off, 3)) (ht : (pc : Int) + off = (tgt : Int)) (kt : y < x → PR E d ne tgt lo st M Q) (kf : ¬ (y < x) → PR E d ne (pc + 3) lo st M Q) : PR E d ne pc lo (.int y :: .int x :: st) M Q := by
  intro p e R s m args below meth c H ls locs cells slots Z S
  exact lv_icmp_gt S.1.1 S.1.2.1 hd ht (fun h => kt h _ _ _ _ _ _ _ _ _ _ _ _ _ _ _ S) (fun h => kf h _ _ _ _ _ _ _ _ _ _ _ _ _ _ _ S)
theorem px_icmp_le {x y : Int32} {off : Int} (tgt : Nat) (hd : decode d.co pc = .ok (.if_icmp .le off, 3)) (ht : (pc : Int) + off = (tgt : Int)) (kt : x ≤ y → PR E d ne tgt lo st M Q) (kf : ¬ (x ≤ y) → PR E d ne (pc + 3) lo st M Q) : PR E d ne pc lo (.int y :: .int x :: st) M Q := by
  intro p e R s m args below meth c H ls locs cells slots Z S
  exact lv_icmp_le S.1.1 S.1.2.1 hd ht (fun h => kt h _ _ _ _ _ _ _ _ _ _ _ _ _ _ _ S) (fun h => kf h _ _ _ _ _ _ _ _ _ _ _ _ _ _ _ S)
theorem px_if_eq {x : Int32} {off : Int} (tgt : Nat) (hd : decode d.co pc = .ok (.ifCond .eq off, 3)) (ht : (pc : Int) + off = (tgt : Int)) (kt : x = 0 → PR E d ne tgt lo st M Q) (kf : ¬ (x = 0) → PR E d ne (pc + 3) lo st M Q) : PR E d ne pc lo (.int x :: st) M Q := by
  intro p e R s m args below meth c H ls locs cells slots Z S
  exact lv_if_eq S.1.1 S.1.2.1 hd ht (fun h => kt h _ _ _ _ _ _ _ _ _ _ _ _ _ _ _ S) (fun h => kf h _ _ _ _ _ _ _ _ _ _ _ _ _ _ _ S)
theorem px_if_lt {x : Int32} {off : Int} (tgt : Nat) (hd : decode d.co pc = .ok (.ifCond .lt off, 3)) (ht : (pc : Int) + off = (tgt : Int)) (kt : x < 0 → PR E d ne tgt lo st M Q) (kf : ¬ (x < 0) → PR E d ne (pc + 3) lo st M Q) : PR E d ne pc lo (.int x :: st) M Q := by
  intro p e R s m args below meth c H ls locs cells slots Z S
  exact lv_if_lt S.1.1 S.1.2.1 hd ht (fun h => kt h _ _ _ _ _ _ _ _ _ _ _ _ _ _ _ S) (fun h => kf h _ _ _ _ _ _ _ _ _ _ _ _ _ _ _ S)
theorem px_if_ge {x : Int32} {off : Int} (tgt : Nat) (hd : decode d.co pc = .ok (.ifCond .ge off, 3)) (ht : (pc : Int) + off = (tgt : Int)) (kt : 0 ≤ x → PR E d ne tgt lo st M Q) (kf : ¬ (0 ≤ x) → PR E d ne (pc + 3) lo st M Q) : PR E d ne pc lo (.int x :: st) M Q := by
  intro p e R s m args below meth c H ls locs cells slots Z S
  exact lv_if_ge S.1.1 S.1.2.1 hd ht (fun h => kt h _ _ _ _ _ _ _ _ _ _ _ _ _ _ _ S) (fun h => kf h _ _ _ _ _ _ _ _ _ _ _ _ _ _ _ S)
theorem px_if_gt {x : Int32} {off : Int} (tgt : Nat) (hd : decode d.co pc = .ok (.ifCond .gt off, 3)) (ht : (pc : Int) + off = (tgt : Int)) (kt : 0 < x → PR E d ne tgt lo st M Q) (kf : ¬ (0 < x) → PR E d ne (pc + 3) lo st M Q) : PR E d ne pc lo (.int x :: st) M Q := by
  intro p e R s m args below meth c H ls locs cells slots Z S
  exact lv_if_gt S.1.1 S.1.2.1 hd ht (fun h => kt h _ _ _ _ _ _ _ _ _ _ _ _ _ _ _ S) (fun h => kf h _ _ _ _ _ _ _ _ _ _ _ _ _ _ _ S)
theorem px_if_le {x : Int32} {off : Int} (tgt : Nat) (hd : decode d.co pc = .ok (.ifCond .le off, 3)) (ht : (pc : Int) + off = (tgt : Int)) (kt : x ≤ 0 → PR E d ne tgt lo st M Q) (kf : ¬ (x ≤ 0) → PR E d ne (pc + 3) lo st M Q) : PR E d ne pc lo (.int x :: st) M Q := by
  intro p e R s m args below meth c H ls locs cells slots Z S
  exact lv_if_le S.1.1 S.1.2.1 hd ht (fun h => kt h _ _ _ _ _ _ _ _ _ _ _ _ _ _ _ S) (fun h => kf h _ _ _ _ _ _ _ _ _ _ _ _ _ _ _ S)
theorem px_icmp_ne {x y : Int32} {off : Int} (tgt : Nat) (hd : decode d.co pc = .ok (.if_icmp .ne off, 3)) (ht : (pc : Int) + off = (tgt : Int)) (kt : ¬ x = y → PR E d ne tgt lo st M Q) (kf : x = y → PR E d ne (pc + 3) lo st M Q) : PR E d ne pc lo (.int y :: .int x :: st) M Q := by
  intro p e R s m args below meth c H ls locs cells slots Z S
  exact lv_icmp_ne S.1.1 S.1.2.1 hd ht (fun h => kt h _ _ _ _ _ _ _ _ _ _ _ _ _ _ _ S) (fun h => kf h _ _ _ _ _ _ _ _ _ _ _ _ _ _ _ S)
theorem px_if_ne {x : Int32} {off : Int} (tgt : Nat) (hd : decode d.co pc = .ok (.ifCond .ne off, 3)) (ht : (pc : Int) + off = (tgt : Int)) (kt : ¬ x = 0 → PR E d ne tgt lo st M Q) (kf : x = 0 → PR E d ne (pc + 3) lo st M Q) : PR E d ne pc lo (.int x :: st) M Q := by
  intro p e R s m args below meth c H ls locs cells slots Z S
  exact lv_if_ne S.1.1 S.1.2.1 hd ht (fun h => kt h _ _ _ _ _ _ _ _ _ _ _ _ _ _ _ S) (fun h => kf h _ _ _ _ _ _ _ _ _ _ _ _ _ _ _ S)
theorem px_goto {off : Int} (tgt : Nat) (hd : decode d.co pc = .ok (.goto off, 3)) (ht : (pc : Int) + off = (tgt : Int)) (k : PR E d ne tgt lo st M Q) : PR E d ne pc lo st M Q := by
  intro p e R s m args below meth c H ls locs cells slots Z S
  exact lv_goto S.1.1 S.1.2.1 hd ht (k _ _ _ _ _ _ _ _ _ _ _ _ _ _ _ S)
theorem px_tableOut {dflt lo' hi : Int} {offs : Array Int} {len : Nat} {x : Int32} (tgt : Nat) (hd : decode d.co pc = .ok (.tableswitch dflt lo' hi offs, len)) (h : x.toInt < lo' ∨ hi < x.toInt) (ht : (pc : Int) + dflt = (tgt : Int)) (k : PR E d ne tgt lo st M Q) : PR E d ne pc lo (.int x :: st) M Q := by
  intro p e R s m args below meth c H ls locs cells slots Z S
  exact lv_tableOut S.1.1 S.1.2.1 hd h ht (k _ _ _ _ _ _ _ _ _ _ _ _ _ _ _ S)
theorem px_tableIn {dflt lo' hi : Int} {offs : Array Int} {len : Nat} {x : Int32} {off : Int} (tgt : Nat) (hd : decode d.co pc = .ok (.tableswitch dflt lo' hi offs, len)) (h1 : ¬ x.toInt < lo') (h2 : ¬ hi < x.toInt) (ho : offs[(x.toInt - lo').toNat]? = some off) (ht : (pc : Int) + off = (tgt : Int)) (k : PR E d ne tgt lo st M Q) : PR E d ne pc lo (.int x :: st) M Q := by
  intro p e R s m args below meth c H ls locs cells slots Z S
  exact lv_tableIn S.1.1 S.1.2.1 hd h1 h2 ho ht (k _ _ _ _ _ _ _ _ _ _ _ _ _ _ _ S)
theorem px_lookup {dflt : Int} {ps : Array (Int × Int)} {len : Nat} {x : Int32} {off : Int} (tgt : Nat) (hd : decode d.co pc = .ok (.lookupswitch dflt ps, len)) (hp : (ps.toList.zip (ps.toList.drop 1)).all (fun (a, next) => a.1 < next.1) = true) (ho : Op.lookupswitch.offset ps.toList dflt x.toInt = off) (ht : (pc : Int) + off = (tgt : Int)) (k : PR E d ne tgt lo st M Q) : PR E d ne pc lo (.int x :: st) M Q := by
  intro p e R s m args below meth c H ls locs cells slots Z S
  exact lv_lookup S.1.1 S.1.2.1 hd hp ho ht (k _ _ _ _ _ _ _ _ _ _ _ _ _ _ _ S)
theorem px_ldc {index : Nat} {v : Int32} (hd : decode d.co pc = .ok (.ldc index, 2)) (hw : Cond.constant d.nm.cls index v ∈ xwl) (k : PR E d ne (pc + 2) lo (.int v :: st) M Q) : PR E d ne pc lo st M Q := by
  intro p e R s m args below meth c H ls locs cells slots Z S
  exact lv_ldc S.1.1 S.1.2.1 S.1.2.2.2.1 (S.1.2.2.2.2.1 _ hw) hd (k _ _ _ _ _ _ _ _ _ _ _ _ _ _ _ S)
theorem px_ldc2 {index : Nat} {v : Int64} (hd : decode d.co pc = .ok (.ldc2_w index, 3)) (hw : Cond.constantLong d.nm.cls index v ∈ xwl) (k : PR E d ne (pc + 3) lo (.long v :: st) M Q) : PR E d ne pc lo st M Q := by
  intro p e R s m args below meth c H ls locs cells slots Z S
  exact lv_ldc2 S.1.1 S.1.2.1 S.1.2.2.2.1 (S.1.2.2.2.2.1 _ hw) hd (k _ _ _ _ _ _ _ _ _ _ _ _ _ _ _ S)
theorem px_ldcS {index i : Nat} {tx : String} (hd : decode d.co pc = .ok (.ldc index, 2)) (hq : (d.nm.cls, index, tx, i) ∈ xstr) (k : PR E d ne (pc + 2) lo (.ref (1000 + i) :: st) M Q) : PR E d ne pc lo st M Q := by
  intro p e R s m args below meth c H ls locs cells slots Z S
  have ea : cv E (.ref (1000 + i)) = .ref (E.sk i) := by
    show Value.ref (ad E (1000 + i)) = _
    unfold ad
    rw [if_neg (by omega), if_neg (by omega), Nat.add_sub_cancel_left]
  have k1 := k p e R s m args below meth c H ls locs cells slots Z S
  rw [List.map_cons, ea] at k1
  exact va_ldcS S.1.1 S.1.2.1 S.1.2.2.2.1 (S.1.2.2.2.2.2.1.2.2.2 _ hq) hd k1
theorem px_ret (hd : decode d.co pc = .ok (.return_, 1)) (hr : d.rt = none) (hq : Q none M) (hn : xN M = ne) : PR E d ne pc lo [] M Q := by
  intro p e R s m args below meth c H ls locs cells slots Z S
  exact S.2.1 none M H ls pc locs cells slots hq hn ⟨hd, hr⟩ S.2.2.2.2.1 S.2.2.2.2.2.1 (by have := S.2.2.2.2.2.2.2.1; omega) (by have := S.2.2.2.2.2.2.2.2; omega)
theorem px_iret {v : Int32} (hd : decode d.co pc = .ok (.ireturn, 1)) (hr : d.rt = some .int) (hq : Q (some (.int v)) M) (hn : xN M = ne) : PR E d ne pc lo [.int v] M Q := by
  intro p e R s m args below meth c H ls locs cells slots Z S
  exact S.2.1 (some (.int v)) M H ls pc locs cells slots hq hn ⟨hd, .int, hr, rfl⟩ S.2.2.2.2.1 S.2.2.2.2.2.1 (by have := S.2.2.2.2.2.2.2.1; omega) (by have := S.2.2.2.2.2.2.2.2; omega)
theorem px_zret {v : Int32} (hd : decode d.co pc = .ok (.ireturn, 1)) (hr : d.rt = some .boolean) (hv : narrow .boolean (.int v) = .int v) (hq : Q (some (.int v)) M) (hn : xN M = ne) : PR E d ne pc lo [.int v] M Q := by
  intro p e R s m args below meth c H ls locs cells slots Z S
  exact S.2.1 (some (.int v)) M H ls pc locs cells slots hq hn ⟨hd, .boolean, hr, hv⟩ S.2.2.2.2.1 S.2.2.2.2.2.1 (by have := S.2.2.2.2.2.2.2.1; omega) (by have := S.2.2.2.2.2.2.2.2; omega)
theorem px_lret {v : Int64} (hd : decode d.co pc = .ok (.lreturn, 1)) (hr : d.rt = some .long) (hq : Q (some (.long v)) M) (hn : xN M = ne) : PR E d ne pc lo [.long v] M Q := by
  intro p e R s m args below meth c H ls locs cells slots Z S
  exact S.2.1 (some (.long v)) M H ls pc locs cells slots hq hn ⟨hd, hr⟩ S.2.2.2.2.1 S.2.2.2.2.2.1 (by have := S.2.2.2.2.2.2.2.1; omega) (by have := S.2.2.2.2.2.2.2.2; omega)
theorem px_aret {v : Nat} {C : String} (hd : decode d.co pc = .ok (.areturn, 1)) (hr : d.rt = some (.object C)) (hq : Q (some (.ref v)) M) (hn : xN M = ne) : PR E d ne pc lo [.ref v] M Q := by
  intro p e R s m args below meth c H ls locs cells slots Z S
  exact S.2.1 (some (.ref v)) M H ls pc locs cells slots hq hn ⟨hd, _, hr, Or.inl ⟨_, rfl⟩⟩ S.2.2.2.2.1 S.2.2.2.2.2.1 (by have := S.2.2.2.2.2.2.2.1; omega) (by have := S.2.2.2.2.2.2.2.2; omega)
/-- another name for the top -/
theorem px_top {x y : Int32} (h : x = y) (k : PR E d ne pc lo (.int y :: st) M Q) : PR E d ne pc lo (.int x :: st) M Q := h ▸ k
theorem px_topr {x y : Nat} (h : x = y) (k : PR E d ne pc lo (.ref y :: st) M Q) : PR E d ne pc lo (.ref x :: st) M Q := h ▸ k
theorem px_topl {x y : Int64} (h : x = y) (k : PR E d ne pc lo (.long y :: st) M Q) : PR E d ne pc lo (.long x :: st) M Q := h ▸ k
theorem px_mem {M' : xMem} (h : M = M') (k : PR E d ne pc lo st M' Q) : PR E d ne pc lo st M Q := h ▸ k
end RULES
end
section
/-! ===== fields and arrays ===== -/
/-- a class of the tables by its number: name, fields, how many -/
def xcl (c : Nat) : vw_C := vwCl.getD c ("", fun _ => ("", "", "", false), 0)
/-- the constant idx of class own names field j of class c -/
def xFL (own : String) (idx c j : Nat) : Prop := vwCl[c]? = some (xcl c) ∧ j < (xcl c).2.2 ∧ (xcl c).2.2 = xnf c ∧ (∀ w ∈ u_ws (xcl c).1 (xcl c).2.1 (xcl c).2.2, w ∈ xwl) ∧ Cond.fieldLink own idx ((xcl c).2.1 j).1 ((xcl c).2.1 j).2.1 ((xcl c).2.1 j).2.2.1 ∈ xwl
/-- and how it is stored: its type, no two of one name -/
def xFP (c j : Nat) (ty : FieldType) (fin : Bool) : Prop := (∃ ty0 : Nat → FieldType, ∀ k, k < (xcl c).2.2 → parseFieldDescriptor ((xcl c).2.1 k).2.2.1 = some (ty0 k)) ∧ (∀ a, a < (xcl c).2.2 → ∀ b, b < (xcl c).2.2 → a ≠ b → ((xcl c).2.1 a).2.1 ≠ ((xcl c).2.1 b).2.1) ∧ parseFieldDescriptor ((xcl c).2.1 j).2.2.1 = some ty ∧ ((xcl c).2.1 j).2.2.2 = fin
def xob (a c : Nat) : Prop := 1 ≤ a ∧ a ≤ xNT ∧ (xK a).1 = c
def xar (a k n : Nat) : Prop := 1 ≤ a ∧ a ≤ xNT ∧ xK a = (k, n)
theorem ad_in {E : xE} {a : Nat} (h1 : 1 ≤ a) (h2 : a < 1000) : ad E a = E.base + (a - 1) := by
  unfold ad; rw [if_neg (by omega), if_pos h2]
theorem cv_ref {E : xE} {a : Nat} (h1 : 1 ≤ a) (h2 : a < 1000) : cv E (.ref a) = .ref (E.base + (a - 1)) := by
  show Value.ref (ad E a) = _; rw [ad_in h1 h2]
theorem ent_ob {E : xE} {M : xMem} {a c : Nat} (hk : (xK a).1 = c) (hc : c < 20) : ent E M a = .inr (c, (List.range (xnf c)).map (fun j => xfv E M a c j)) := by
  unfold ent; rw [hk, if_pos hc]
theorem ent_ia {E : xE} {M : xMem} {a k n : Nat} (hk : xK a = (k, n)) (h1 : 20 ≤ k) (h2 : k < 23) : ent E M a = .inl (E.cA k, n, .inl (fun j => M.1 a j)) := by
  unfold ent; rw [hk]; rw [if_neg (by show ¬ k < 20; omega), if_pos h2]
theorem ent_ra {E : xE} {M : xMem} {a k n : Nat} (hk : xK a = (k, n)) (h1 : 23 ≤ k) : ent E M a = .inl (E.cA k, n, .inr (.inr (.inr (.inr (fun j => xrf E (M.2.1 a j)))))) := by
  unfold ent; rw [hk]; rw [if_neg (by show ¬ k < 20; omega), if_neg (by show ¬ k < 23; omega)]
theorem ent_congr {E : xE} {M M' : xMem} {c : Nat} (h1 : ∀ j, M'.1 c j = M.1 c j) (h2 : ∀ j, M'.2.1 c j = M.2.1 c j) (h3 : ∀ j, M'.2.2.1 c j = M.2.2.1 c j) : ent E M' c = ent E M c := by
  have e1 : M'.1 c = M.1 c := funext h1
  have e2 : M'.2.1 c = M.2.1 c := funext h2
  have e3 : M'.2.2.1 c = M.2.2.1 c := funext h3
  unfold ent xfv
  rw [e1, e2, e3]
theorem map_set_range {n j : Nat} {f g : Nat → Value} {v : Value} (hj : g j = v) (ho : ∀ k, k ≠ j → g k = f k) : ((List.range n).map f).set j v = (List.range n).map g := by
  apply List.ext_getElem?
  intro k
  by_cases hk : k = j
  · subst hk
    rw [List.getElem?_set_self', List.getElem?_map, List.getElem?_map]
    cases hr : (List.range n)[k]? with
    | none => rfl
    | some i =>
      obtain ⟨hl, e⟩ := List.getElem?_eq_some_iff.mp hr
      rw [List.getElem_range] at e
      subst e
      rw [← hj]; rfl
  · rw [List.getElem?_set_ne (Ne.symm hk), List.getElem?_map, List.getElem?_map]
    cases hr : (List.range n)[k]? with
    | none => rfl
    | some i =>
      obtain ⟨hl, e⟩ := List.getElem?_eq_some_iff.mp hr
      rw [List.getElem_range] at e
      subst e
      show some (f k) = some (g k)
      rw [ho k hk]
section HEAP
variable {E : xE} {d : xMD} {ne pc : Nat} {lo : List (Option Value)} {st : List Value} {M : xMem} {Q : Option Value → xMem → Prop}
/-- getfield, whatever its sort -/
theorem px_get0 {a idx c j : Nat} {v : Value} (hd : decode d.co pc = .ok (.getfield idx, 3)) (hf : xFL d.nm.cls idx c j) (h1 : 1 ≤ a) (h2 : a ≤ xN M) (h3 : a < 1000) (hk : (xK a).1 = c) (hc : c < 20) (hv : xfv E M a c j = cv E v)
    (k : PR E d ne (pc + 3) lo (v :: st) M Q) : PR E d ne pc lo (.ref a :: st) M Q := by
  intro p e R s m args below meth c' H ls locs cells slots Z S
  obtain ⟨hC, hR, hl0, hlen, hH, hrest⟩ := id S
  have hP := hH.2.1
  have he := ws_at E M h1 h2
  rw [ent_ob hk hc] at he
  rw [List.map_cons, cv_ref h1 h3]
  exact va_get hC.1 hC.2.1 (Ts := xwl) hC.2.2.2.2.1 hf.2.2.2.1 hC.2.2.2.1 hC.2.2.2.2.2.1.1 hP (a - 1) he hf.1 j hf.2.1 (hC.2.2.2.2.1 _ hf.2.2.2.2) (fun _ h => h) (v := cv E v) (by rw [List.getElem?_map, List.getElem?_range (by rw [← hf.2.2.1]; exact hf.2.1)]; rw [← hv]; rfl) hd (k _ _ _ _ _ _ _ _ _ _ _ _ _ _ _ S)
theorem px_getI {a idx c j : Nat} (hd : decode d.co pc = .ok (.getfield idx, 3)) (hf : xFL d.nm.cls idx c j) (ho : xob a c) (hM : xNT ≤ xN M) (hc : (decide (c < 20) && decide (xft c j = 0)) = true)
    (k : PR E d ne (pc + 3) lo (.int (M.1 a j) :: st) M Q) : PR E d ne pc lo (.ref a :: st) M Q := by
  simp only [Bool.and_eq_true, decide_eq_true_eq] at hc
  refine px_get0 hd hf ho.1 (Nat.le_trans ho.2.1 hM) (Nat.lt_of_le_of_lt ho.2.1 (by decide)) ho.2.2 hc.1 ?_ k
  unfold xfv; rw [if_pos hc.2]; rfl
theorem px_getR {a idx c j r : Nat} (hd : decode d.co pc = .ok (.getfield idx, 3)) (hf : xFL d.nm.cls idx c j) (ho : xob a c) (hM : xNT ≤ xN M) (hc : (decide (c < 20) && decide (xft c j = 1)) = true) (hr : M.2.1 a j = r) (h0 : 0 < r)
    (k : PR E d ne (pc + 3) lo (.ref r :: st) M Q) : PR E d ne pc lo (.ref a :: st) M Q := by
  simp only [Bool.and_eq_true, decide_eq_true_eq] at hc
  refine px_get0 hd hf ho.1 (Nat.le_trans ho.2.1 hM) (Nat.lt_of_le_of_lt ho.2.1 (by decide)) ho.2.2 hc.1 ?_ k
  unfold xfv; rw [if_neg (by rw [hc.2]; decide), if_pos hc.2, hr]
  unfold xrf; rw [if_neg (by omega)]; rfl
theorem px_getL {a idx c j : Nat} (hd : decode d.co pc = .ok (.getfield idx, 3)) (hf : xFL d.nm.cls idx c j) (ho : xob a c) (hM : xNT ≤ xN M) (hc : (decide (c < 20) && decide (xft c j = 2)) = true)
    (k : PR E d ne (pc + 3) lo (.long (M.2.2.1 a j) :: st) M Q) : PR E d ne pc lo (.ref a :: st) M Q := by
  simp only [Bool.and_eq_true, decide_eq_true_eq] at hc
  refine px_get0 hd hf ho.1 (Nat.le_trans ho.2.1 hM) (Nat.lt_of_le_of_lt ho.2.1 (by decide)) ho.2.2 hc.1 ?_ k
  unfold xfv; rw [if_neg (by rw [hc.2]; decide), if_neg (by rw [hc.2]; decide)]; rfl
/-- putfield, whatever its sort: M' is M with the one field -/
theorem px_put0 {a idx c j : Nat} {v : Value} {ty : FieldType} {fin : Bool} {M' : xMem} (hd : decode d.co pc = .ok (.putfield idx, 3)) (hf : xFL d.nm.cls idx c j) (hp : xFP c j ty fin) (hfin : fin = true → d.nm.name = "<init>" ∧ ((xcl c).2.1 j).1 = d.nm.cls) (h1 : 1 ≤ a) (h2 : a ≤ xN M) (h3 : a < 1000) (hk : (xK a).1 = c) (hc : c < 20)
    (hn : narrow ty (cv E v) = cv E v) (hfit : fits ty (cv E v) = true) (hN : xN M' = xN M) (ho : ∀ b, b ≠ a → ent E M' b = ent E M b) (hv : xfv E M' a c j = cv E v) (hv2 : ∀ i, i ≠ j → xfv E M' a c i = xfv E M a c i)
    (k : PR E d ne (pc + 3) lo st M' Q) : PR E d ne pc lo (v :: .ref a :: st) M Q := by
  intro p e R s m args below meth c' H ls locs cells slots Z S
  obtain ⟨hC, hR, hl0, hlen, hH, hS, hb1, hb2, hb3⟩ := id S
  obtain ⟨hx, hb, hml, hown, hts, hKN, hfr, hlo, hnm, hbs⟩ := id hC
  have hP := hH.2.1
  have he := ws_at E M h1 h2
  rw [ent_ob hk hc] at he
  obtain ⟨ty0, hty⟩ := hp.1
  have hap := va_apart (own := d.nm.cls) hts hf.2.2.2.1 ty0 hty hp.2.1 hKN.1 hf.1
  obtain ⟨r, g1, cell, q1, q2, q3, q4⟩ := hP (a - 1) _ he
  have hr : r = xcl c := Option.some.inj (g1.symm.trans hf.1)
  subst hr
  obtain ⟨hSl, hfc, kC, hkC, hkind⟩ := hKN.1.1 c _ hf.1
  obtain ⟨cf, kf, fi, f, hi, hsl⟩ := hSl j hf.2.1
  have hlay := hts _ (hf.2.2.2.1 _ (u_in_lay hf.2.1))
  unfold u_lay at hlay
  have hst := (u_facts hfc hkC (u_lays hts hf.2.2.2.1 hf.2.1) hi).1
  have hlen' : j < ((List.range (xnf c)).map (fun j => xfv E M a c j)).length := by rw [List.length_map, List.length_range, ← hf.2.2.1]; exact hf.2.1
  have fin' : ∀ H' : Heap, H'[E.base + (a - 1)]? = some (cell.setSlot f.slot (cv E v)) → H'.size = H.size → (∀ q, q ≠ E.base + (a - 1) → H'[q]? = H[q]?) → W p E.l e R s m args below meth c' H' (locs ++ [⟨E.base + (a - 1), f.slot⟩]) cells slots Z (F0 m (pc + 3) ls (st.map (cv E))) := by
    intro H' e1 e2 e3
    rw [hsl] at e1
    refine k p e R s m args below meth c' H' ls _ cells slots Z ⟨hC, hR, hl0, hlen, ?_, hS.put e2 e3 (Nat.le_add_right _ _), by rw [hN]; exact hb1, by rw [hN]; exact hb2, by rw [hN]; exact hb3⟩
    refine hH.set h1 h2 hN ho ?_ e2 e3
    rw [ent_ob hk hc]
    refine ⟨_, hf.1, t_OB.to (V := updV (vp_V ((List.range (xnf c)).map (fun j => xfv E M a c j))) j (cv E v)) ⟨_, e1, q2, q3, t_set q4 hap hf.2.1 (cv E v)⟩ (fun i _ => ?_)⟩
    rw [vp_updV_set hlen' (cv E v) i, map_set_range (g := fun i => xfv E M' a c i) hv hv2]
  rw [List.map_cons, List.map_cons, cv_ref h1 h3]
  cases hfb : fin with
  | false =>
    rw [hfb] at hp
    rw [if_neg (by rw [hp.2.2.2]; decide)] at hlay
    have h6 := u_store hfc hkC hkind hlay hi hp.2.2.1 hn hfit
    exact W.putK hx hb (f := f) ⟨hown, hts _ hf.2.2.2.2, ⟨_, _, _, hi⟩, hst⟩ (by rw [q2]; exact h6) q1 q3 (by rw [hsl]; exact k2_hasslot (q4 j hf.2.1)) rfl rfl hd fin'
  | true =>
    obtain ⟨hini, hdecl⟩ := hfin hfb
    have h6 := u_fits hfc hkC hkind (u_lays hts hf.2.2.2.1 hf.2.1) hi hp.2.2.1 hn hfit
    rw [hfb] at hp
    rw [if_pos hp.2.2.2] at hlay
    have hcf : m.cls = cf := by
      obtain ⟨_, _, c2, _, _, _, -, -, hf', -, -, -, hown2, -⟩ := Cond.laysFinal_spec hlay
      have e1 : c2 = cf := by have := hi.symm.trans hf'; simp at this; exact this.1.symm
      rw [hdecl] at hown2
      rw [← e1]; exact Option.some.inj (hown.symm.trans hown2)
    exact W.putFinK hx hb hown (hts _ hf.2.2.2.2) hi hst hcf (by rw [hnm]; exact hini) (by rw [q2]; exact h6) q1 q3 (by rw [hsl]; exact k2_hasslot (q4 j hf.2.1)) rfl rfl hd fin'
end HEAP
end
section
theorem ent_wI {E : xE} {M : xMem} {a j : Nat} {v : Int32} {b : Nat} (h : b ≠ a) : ent E (wI M a j v) b = ent E M b :=
  ent_congr (fun k => by rw [xI_wI, if_neg (fun q => h q.1)]) (fun _ => rfl) (fun _ => rfl)
theorem ent_wR {E : xE} {M : xMem} {a j v b : Nat} (h : b ≠ a) : ent E (wR M a j v) b = ent E M b :=
  ent_congr (fun _ => rfl) (fun k => by rw [xR_wR, if_neg (fun q => h q.1)]) (fun _ => rfl)
theorem ent_wL {E : xE} {M : xMem} {a j : Nat} {v : Int64} {b : Nat} (h : b ≠ a) : ent E (wL M a j v) b = ent E M b :=
  ent_congr (fun _ => rfl) (fun _ => rfl) (fun k => by rw [xL_wL, if_neg (fun q => h q.1)])
theorem ent_wF {E : xE} {M : xMem} {a : Nat} {f : Nat → Int32} {b : Nat} (h : b ≠ a) : ent E (wF M a f) b = ent E M b :=
  ent_congr (fun k => by rw [xI_wF, if_neg h]) (fun _ => rfl) (fun _ => rfl)
theorem ent_wN {E : xE} {M : xMem} {b : Nat} (h : b ≠ xN M + 1) : ent E (wN M) b = ent E M b :=
  ent_congr (fun k => by show (if b = M.2.2.2 + 1 then _ else M.1 b) k = _; rw [if_neg h]) (fun k => by show (if b = M.2.2.2 + 1 then _ else M.2.1 b) k = _; rw [if_neg h]) (fun k => by show (if b = M.2.2.2 + 1 then _ else M.2.2.1 b) k = _; rw [if_neg h])
theorem wI_self (M : xMem) (a j : Nat) (v : Int32) : (wI M a j v).1 a j = v := by rw [xI_wI, if_pos ⟨rfl, rfl⟩]
theorem wI_other (M : xMem) {a j i : Nat} (v : Int32) (h : i ≠ j) : (wI M a j v).1 a i = M.1 a i := by rw [xI_wI, if_neg (fun q => h q.2)]
section HEAP2
variable {E : xE} {d : xMD} {ne pc : Nat} {lo : List (Option Value)} {st : List Value} {M : xMem} {Q : Option Value → xMem → Prop}
/-- an int field, whatever the cell's age; nar: what the field's type makes of it -/
theorem px_putI0 {a idx c j : Nat} {x : Int32} {ty : FieldType} {fin : Bool} (hd : decode d.co pc = .ok (.putfield idx, 3)) (hf : xFL d.nm.cls idx c j) (hp : xFP c j ty fin) (hfin : fin = true → d.nm.name = "<init>" ∧ ((xcl c).2.1 j).1 = d.nm.cls) (h1 : 1 ≤ a) (h2 : a ≤ xN M) (h3 : a < 1000) (hk : (xK a).1 = c) (hc : (decide (c < 20) && decide (xft c j = 0)) = true)
    (hn : narrow ty (.int x) = .int x) (hfit : fits ty (.int x) = true) (k : PR E d ne (pc + 3) lo st (wI M a j x) Q) : PR E d ne pc lo (.int x :: .ref a :: st) M Q := by
  simp only [Bool.and_eq_true, decide_eq_true_eq] at hc
  refine px_put0 (v := .int x) (M' := wI M a j x) hd hf hp hfin h1 h2 h3 hk hc.1 hn hfit rfl (fun b hb => ent_wI hb) ?_ (fun i hi => ?_) k
  · unfold xfv; rw [if_pos hc.2, wI_self]; rfl
  · unfold xfv; rw [wI_other M x hi]; rfl
theorem px_putI {a idx c j : Nat} {x : Int32} (hd : decode d.co pc = .ok (.putfield idx, 3)) (hf : xFL d.nm.cls idx c j) (hp : xFP c j .int false) (ho : xob a c) (hM : xNT ≤ xN M) (hc : (decide (c < 20) && decide (xft c j = 0)) = true)
    (k : PR E d ne (pc + 3) lo st (wI M a j x) Q) : PR E d ne pc lo (.int x :: .ref a :: st) M Q :=
  px_putI0 hd hf hp (fun h => by cases h) ho.1 (Nat.le_trans ho.2.1 hM) (Nat.lt_of_le_of_lt ho.2.1 (by decide)) ho.2.2 hc rfl rfl k
theorem px_putZ {a idx c j : Nat} {x : Int32} (hd : decode d.co pc = .ok (.putfield idx, 3)) (hf : xFL d.nm.cls idx c j) (hp : xFP c j .boolean false) (ho : xob a c) (hM : xNT ≤ xN M) (hc : (decide (c < 20) && decide (xft c j = 0)) = true) (hn : narrow .boolean (.int x) = .int x) (hfit : fits .boolean (.int x) = true)
    (k : PR E d ne (pc + 3) lo st (wI M a j x) Q) : PR E d ne pc lo (.int x :: .ref a :: st) M Q :=
  px_putI0 hd hf hp (fun h => by cases h) ho.1 (Nat.le_trans ho.2.1 hM) (Nat.lt_of_le_of_lt ho.2.1 (by decide)) ho.2.2 hc hn hfit k
theorem px_putL0 {a idx c j : Nat} {x : Int64} {fin : Bool} (hd : decode d.co pc = .ok (.putfield idx, 3)) (hf : xFL d.nm.cls idx c j) (hp : xFP c j .long fin) (hfin : fin = true → d.nm.name = "<init>" ∧ ((xcl c).2.1 j).1 = d.nm.cls) (h1 : 1 ≤ a) (h2 : a ≤ xN M) (h3 : a < 1000) (hk : (xK a).1 = c) (hc : (decide (c < 20) && decide (xft c j = 2)) = true)
    (k : PR E d ne (pc + 3) lo st (wL M a j x) Q) : PR E d ne pc lo (.long x :: .ref a :: st) M Q := by
  simp only [Bool.and_eq_true, decide_eq_true_eq] at hc
  refine px_put0 (v := .long x) (M' := wL M a j x) hd hf hp hfin h1 h2 h3 hk hc.1 rfl rfl rfl (fun b hb => ent_wL hb) ?_ (fun i hi => ?_) k
  · unfold xfv; rw [if_neg (by rw [hc.2]; decide), if_neg (by rw [hc.2]; decide), xL_wL, if_pos ⟨rfl, rfl⟩]; rfl
  · have e : (wL M a j x).2.2.1 a i = M.2.2.1 a i := by rw [xL_wL, if_neg (fun q => hi q.2)]
    unfold xfv; rw [e]; rfl
theorem px_putL {a idx c j : Nat} {x : Int64} (hd : decode d.co pc = .ok (.putfield idx, 3)) (hf : xFL d.nm.cls idx c j) (hp : xFP c j .long false) (ho : xob a c) (hM : xNT ≤ xN M) (hc : (decide (c < 20) && decide (xft c j = 2)) = true)
    (k : PR E d ne (pc + 3) lo st (wL M a j x) Q) : PR E d ne pc lo (.long x :: .ref a :: st) M Q :=
  px_putL0 hd hf hp (fun h => by cases h) ho.1 (Nat.le_trans ho.2.1 hM) (Nat.lt_of_le_of_lt ho.2.1 (by decide)) ho.2.2 hc k
theorem px_putR0 {a idx c j r : Nat} {ty : FieldType} {fin : Bool} (hd : decode d.co pc = .ok (.putfield idx, 3)) (hf : xFL d.nm.cls idx c j) (hp : xFP c j ty fin) (hfin : fin = true → d.nm.name = "<init>" ∧ ((xcl c).2.1 j).1 = d.nm.cls) (h1 : 1 ≤ a) (h2 : a ≤ xN M) (h3 : a < 1000) (hk : (xK a).1 = c) (hc : (decide (c < 20) && decide (xft c j = 1)) = true) (h0 : 0 < r)
    (hn : ∀ q : Nat, narrow ty (.ref q) = .ref q) (hfit : ∀ q : Nat, fits ty (.ref q) = true) (k : PR E d ne (pc + 3) lo st (wR M a j r) Q) : PR E d ne pc lo (.ref r :: .ref a :: st) M Q := by
  simp only [Bool.and_eq_true, decide_eq_true_eq] at hc
  refine px_put0 (v := .ref r) (M' := wR M a j r) hd hf hp hfin h1 h2 h3 hk hc.1 (hn _) (hfit _) rfl (fun b hb => ent_wR hb) ?_ (fun i hi => ?_) k
  · unfold xfv; rw [if_neg (by rw [hc.2]; decide), if_pos hc.2, xR_wR, if_pos ⟨rfl, rfl⟩]; unfold xrf; rw [if_neg (by omega)]; rfl
  · have e : (wR M a j r).2.1 a i = M.2.1 a i := by rw [xR_wR, if_neg (fun q => hi q.2)]
    unfold xfv; rw [e]; rfl
theorem px_putR {a idx c j r : Nat} {ty : FieldType} (hd : decode d.co pc = .ok (.putfield idx, 3)) (hf : xFL d.nm.cls idx c j) (hp : xFP c j ty false) (ho : xob a c) (hM : xNT ≤ xN M) (hc : (decide (c < 20) && decide (xft c j = 1)) = true) (h0 : 0 < r)
    (hn : ∀ q : Nat, narrow ty (.ref q) = .ref q) (hfit : ∀ q : Nat, fits ty (.ref q) = true) (k : PR E d ne (pc + 3) lo st (wR M a j r) Q) : PR E d ne pc lo (.ref r :: .ref a :: st) M Q :=
  px_putR0 hd hf hp (fun h => by cases h) ho.1 (Nat.le_trans ho.2.1 hM) (Nat.lt_of_le_of_lt ho.2.1 (by decide)) ho.2.2 hc h0 hn hfit k
-- arrays of ints, bytes, booleans
theorem px_iald0 {a n : Nat} {i : Int32} (hd : decode d.co pc = .ok (.iaload, 1)) (h1 : 1 ≤ a) (h2 : a ≤ xN M) (h3 : a < 1000) (hk : xK a = (20, n)) (hin : vp_in i n) (k : PR E d ne (pc + 1) lo (.int (M.1 a i.toNatClampNeg) :: st) M Q) : PR E d ne pc lo (.int i :: .ref a :: st) M Q := by
  intro p e R s m args below meth c' H ls locs cells slots Z S
  obtain ⟨hC, hR, hl0, hlen, hH, hrest⟩ := id S
  have he := ws_at E M h1 h2
  rw [ent_ia hk (by decide) (by decide)] at he
  rw [List.map_cons, List.map_cons, cv_ref h1 h3]
  exact va_iald (i := i) hC.1 hC.2.1 hC.2.2.2.2.2.1.1 hH.2.1 (a - 1) 0 he rfl hin hd (k _ _ _ _ _ _ _ _ _ _ _ _ _ _ _ S)
theorem px_iald {a n : Nat} {i : Int32} (hd : decode d.co pc = .ok (.iaload, 1)) (ho : xar a 20 n) (hM : xNT ≤ xN M) (hin : vp_in i n) (k : PR E d ne (pc + 1) lo (.int (M.1 a i.toNatClampNeg) :: st) M Q) : PR E d ne pc lo (.int i :: .ref a :: st) M Q :=
  px_iald0 hd ho.1 (Nat.le_trans ho.2.1 hM) (Nat.lt_of_le_of_lt ho.2.1 (by decide)) ho.2.2 hin k
theorem px_iast0 {a n : Nat} {i x : Int32} (hd : decode d.co pc = .ok (.iastore, 1)) (h1 : 1 ≤ a) (h2 : a ≤ xN M) (h3 : a < 1000) (hk : xK a = (20, n)) (hin : vp_in i n) (k : PR E d ne (pc + 1) lo st (wI M a i.toNatClampNeg x) Q) : PR E d ne pc lo (.int x :: .int i :: .ref a :: st) M Q := by
  intro p e R s m args below meth c' H ls locs cells slots Z S
  obtain ⟨hC, hR, hl0, hlen, hH, hS, hb1, hb2, hb3⟩ := id S
  have hP := hH.2.1
  have he := ws_at E M h1 h2
  rw [ent_ia hk (by decide) (by decide)] at he
  rw [List.map_cons, List.map_cons, List.map_cons, cv_ref h1 h3]
  refine W.iast (j := i) (x := x) hC.1 hC.2.1 (hP (a - 1) _ he) ((hC.2.2.2.2.2.1.1.2 0 _ rfl).1 n (fun j => .int (M.1 a j))) (fun q => by cases q) (by show ¬ (i < 0 ∨ (arrV _ _ _).slots.size ≤ _); rw [arrV_size]; exact hin) rfl rfl hd fun H1 e1 z oq => ?_
  refine k p e R s m args below meth c' H1 ls _ cells slots Z ⟨hC, hR, hl0, hlen, hH.set h1 h2 (M' := wI M a i.toNatClampNeg x) rfl (fun b hb => ent_wI hb) ?_ z oq, hS.put z oq (Nat.le_add_right _ _), hb1, hb2, hb3⟩
  rw [ent_ia hk (by decide) (by decide)]
  show H1[E.base + (a - 1)]? = some (vp_cell _ _)
  rw [e1]
  rw [vp_cell_i, vp_cell_i, arrV_store]
  congr 2
  funext q
  rw [xI_wI]
  by_cases hq : q = i.toNatClampNeg
  · subst hq
    rw [if_pos ⟨rfl, rfl⟩]
    simp [updV]
  · rw [if_neg (fun z => hq z.2)]
    simp [updV, hq]
theorem px_iast {a n : Nat} {i x : Int32} (hd : decode d.co pc = .ok (.iastore, 1)) (ho : xar a 20 n) (hM : xNT ≤ xN M) (hin : vp_in i n) (k : PR E d ne (pc + 1) lo st (wI M a i.toNatClampNeg x) Q) : PR E d ne pc lo (.int x :: .int i :: .ref a :: st) M Q :=
  px_iast0 hd ho.1 (Nat.le_trans ho.2.1 hM) (Nat.lt_of_le_of_lt ho.2.1 (by decide)) ho.2.2 hin k
theorem px_bald0 {a n : Nat} {i : Int32} (hd : decode d.co pc = .ok (.baload, 1)) (h1 : 1 ≤ a) (h2 : a ≤ xN M) (h3 : a < 1000) (hk : xK a = (21, n)) (hin : vp_in i n) (k : PR E d ne (pc + 1) lo (.int (M.1 a i.toNatClampNeg) :: st) M Q) : PR E d ne pc lo (.int i :: .ref a :: st) M Q := by
  intro p e R s m args below meth c' H ls locs cells slots Z S
  obtain ⟨hC, hR, hl0, hlen, hH, hrest⟩ := id S
  have he := ws_at E M h1 h2
  rw [ent_ia hk (by decide) (by decide)] at he
  rw [List.map_cons, List.map_cons, cv_ref h1 h3]
  exact va_bald (i := i) hC.1 hC.2.1 hC.2.2.2.2.2.1.1 hH.2.1 (a - 1) 1 he rfl hin hd (k _ _ _ _ _ _ _ _ _ _ _ _ _ _ _ S)
theorem px_bald {a n : Nat} {i : Int32} (hd : decode d.co pc = .ok (.baload, 1)) (ho : xar a 21 n) (hM : xNT ≤ xN M) (hin : vp_in i n) (k : PR E d ne (pc + 1) lo (.int (M.1 a i.toNatClampNeg) :: st) M Q) : PR E d ne pc lo (.int i :: .ref a :: st) M Q :=
  px_bald0 hd ho.1 (Nat.le_trans ho.2.1 hM) (Nat.lt_of_le_of_lt ho.2.1 (by decide)) ho.2.2 hin k
theorem px_bast0 {a n : Nat} {i x : Int32} (hd : decode d.co pc = .ok (.bastore, 1)) (h1 : 1 ≤ a) (h2 : a ≤ xN M) (h3 : a < 1000) (hk : xK a = (21, n)) (hin : vp_in i n) (k : PR E d ne (pc + 1) lo st (wI M a i.toNatClampNeg (vp_nar .byte x)) Q) : PR E d ne pc lo (.int x :: .int i :: .ref a :: st) M Q := by
  intro p e R s m args below meth c' H ls locs cells slots Z S
  obtain ⟨hC, hR, hl0, hlen, hH, hS, hb1, hb2, hb3⟩ := id S
  have hP := hH.2.1
  have he := ws_at E M h1 h2
  rw [ent_ia hk (by decide) (by decide)] at he
  rw [List.map_cons, List.map_cons, List.map_cons, cv_ref h1 h3]
  refine W.bast (j := i) (x := x) hC.1 hC.2.1 (hP (a - 1) _ he) ((hC.2.2.2.2.2.1.1.2 1 _ rfl).1 n (fun j => .int (M.1 a j))) (fun q => by cases q) (by show ¬ (i < 0 ∨ (arrV _ _ _).slots.size ≤ _); rw [arrV_size]; exact hin) rfl rfl hd fun H1 e1 z oq => ?_
  refine k p e R s m args below meth c' H1 ls _ cells slots Z ⟨hC, hR, hl0, hlen, hH.set h1 h2 (M' := wI M a i.toNatClampNeg (vp_nar .byte x)) rfl (fun b hb => ent_wI hb) ?_ z oq, hS.put z oq (Nat.le_add_right _ _), hb1, hb2, hb3⟩
  rw [ent_ia hk (by decide) (by decide)]
  show H1[E.base + (a - 1)]? = some (vp_cell _ _)
  rw [e1]
  rw [vp_cell_i, vp_cell_i, arrV_store]
  congr 2
  funext q
  rw [xI_wI]
  by_cases hq : q = i.toNatClampNeg
  · subst hq
    rw [if_pos ⟨rfl, rfl⟩]
    simp [updV, vp_nar, narrow]
  · rw [if_neg (fun z => hq z.2)]
    simp [updV, hq]
theorem px_bast {a n : Nat} {i x : Int32} (hd : decode d.co pc = .ok (.bastore, 1)) (ho : xar a 21 n) (hM : xNT ≤ xN M) (hin : vp_in i n) (k : PR E d ne (pc + 1) lo st (wI M a i.toNatClampNeg (vp_nar .byte x)) Q) : PR E d ne pc lo (.int x :: .int i :: .ref a :: st) M Q :=
  px_bast0 hd ho.1 (Nat.le_trans ho.2.1 hM) (Nat.lt_of_le_of_lt ho.2.1 (by decide)) ho.2.2 hin k
theorem px_zald0 {a n : Nat} {i : Int32} (hd : decode d.co pc = .ok (.baload, 1)) (h1 : 1 ≤ a) (h2 : a ≤ xN M) (h3 : a < 1000) (hk : xK a = (22, n)) (hin : vp_in i n) (k : PR E d ne (pc + 1) lo (.int (M.1 a i.toNatClampNeg) :: st) M Q) : PR E d ne pc lo (.int i :: .ref a :: st) M Q := by
  intro p e R s m args below meth c' H ls locs cells slots Z S
  obtain ⟨hC, hR, hl0, hlen, hH, hrest⟩ := id S
  have he := ws_at E M h1 h2
  rw [ent_ia hk (by decide) (by decide)] at he
  rw [List.map_cons, List.map_cons, cv_ref h1 h3]
  exact va_zald (i := i) hC.1 hC.2.1 hC.2.2.2.2.2.1.1 hH.2.1 (a - 1) 2 he rfl hin hd (k _ _ _ _ _ _ _ _ _ _ _ _ _ _ _ S)
theorem px_zald {a n : Nat} {i : Int32} (hd : decode d.co pc = .ok (.baload, 1)) (ho : xar a 22 n) (hM : xNT ≤ xN M) (hin : vp_in i n) (k : PR E d ne (pc + 1) lo (.int (M.1 a i.toNatClampNeg) :: st) M Q) : PR E d ne pc lo (.int i :: .ref a :: st) M Q :=
  px_zald0 hd ho.1 (Nat.le_trans ho.2.1 hM) (Nat.lt_of_le_of_lt ho.2.1 (by decide)) ho.2.2 hin k
theorem px_zast0 {a n : Nat} {i x : Int32} (hd : decode d.co pc = .ok (.bastore, 1)) (h1 : 1 ≤ a) (h2 : a ≤ xN M) (h3 : a < 1000) (hk : xK a = (22, n)) (hin : vp_in i n) (k : PR E d ne (pc + 1) lo st (wI M a i.toNatClampNeg (vp_nar .boolean x)) Q) : PR E d ne pc lo (.int x :: .int i :: .ref a :: st) M Q := by
  intro p e R s m args below meth c' H ls locs cells slots Z S
  obtain ⟨hC, hR, hl0, hlen, hH, hS, hb1, hb2, hb3⟩ := id S
  have hP := hH.2.1
  have he := ws_at E M h1 h2
  rw [ent_ia hk (by decide) (by decide)] at he
  rw [List.map_cons, List.map_cons, List.map_cons, cv_ref h1 h3]
  refine W.zast (j := i) (x := x) hC.1 hC.2.1 (hP (a - 1) _ he) ((hC.2.2.2.2.2.1.1.2 2 _ rfl).1 n (fun j => .int (M.1 a j))) (fun q => by cases q) (by show ¬ (i < 0 ∨ (arrV _ _ _).slots.size ≤ _); rw [arrV_size]; exact hin) rfl rfl hd fun H1 e1 z oq => ?_
  refine k p e R s m args below meth c' H1 ls _ cells slots Z ⟨hC, hR, hl0, hlen, hH.set h1 h2 (M' := wI M a i.toNatClampNeg (vp_nar .boolean x)) rfl (fun b hb => ent_wI hb) ?_ z oq, hS.put z oq (Nat.le_add_right _ _), hb1, hb2, hb3⟩
  rw [ent_ia hk (by decide) (by decide)]
  show H1[E.base + (a - 1)]? = some (vp_cell _ _)
  rw [e1]
  rw [vp_cell_i, vp_cell_i, arrV_store]
  congr 2
  funext q
  rw [xI_wI]
  by_cases hq : q = i.toNatClampNeg
  · subst hq
    rw [if_pos ⟨rfl, rfl⟩]
    simp [updV, vp_nar, narrow]
  · rw [if_neg (fun z => hq z.2)]
    simp [updV, hq]
theorem px_zast {a n : Nat} {i x : Int32} (hd : decode d.co pc = .ok (.bastore, 1)) (ho : xar a 22 n) (hM : xNT ≤ xN M) (hin : vp_in i n) (k : PR E d ne (pc + 1) lo st (wI M a i.toNatClampNeg (vp_nar .boolean x)) Q) : PR E d ne pc lo (.int x :: .int i :: .ref a :: st) M Q :=
  px_zast0 hd ho.1 (Nat.le_trans ho.2.1 hM) (Nat.lt_of_le_of_lt ho.2.1 (by decide)) ho.2.2 hin k
theorem px_alen {a kk n : Nat} (hd : decode d.co pc = .ok (.arraylength, 1)) (ho : xar a kk n) (hk : (decide (20 ≤ kk) && decide (kk < 27)) = true) (hM : xNT ≤ xN M) (k : PR E d ne (pc + 1) lo (.int (Int32.ofNat n) :: st) M Q) : PR E d ne pc lo (.ref a :: st) M Q := by
  intro p e R s m args below meth c' H ls locs cells slots Z S
  obtain ⟨hC, hR, hl0, hlen, hH, hrest⟩ := id S
  simp only [Bool.and_eq_true, decide_eq_true_eq] at hk
  have he := ws_at E M ho.1 (Nat.le_trans ho.2.1 hM)
  rw [List.map_cons, cv_ref ho.1 (Nat.lt_of_le_of_lt ho.2.1 (by decide))]
  have ht : ∃ (t0 : Nat) (ty : FieldType), (xtys E)[t0]? = some (E.cA kk, ty) := by
    obtain ⟨g1, g2⟩ := hk
    have : kk = 20 ∨ kk = 21 ∨ kk = 22 ∨ kk = 23 ∨ kk = 24 ∨ kk = 25 ∨ kk = 26 := by omega
    rcases this with rfl | rfl | rfl | rfl | rfl | rfl | rfl
    · exact ⟨0, _, rfl⟩
    · exact ⟨1, _, rfl⟩
    · exact ⟨2, _, rfl⟩
    · exact ⟨3, _, rfl⟩
    · exact ⟨4, _, rfl⟩
    · exact ⟨5, _, rfl⟩
    · exact ⟨6, _, rfl⟩
  obtain ⟨t0, ty, ht⟩ := ht
  by_cases h23 : kk < 23
  · rw [ent_ia ho.2.2 hk.1 h23] at he
    exact va_alen hC.1 hC.2.1 hC.2.2.2.2.2.1.1 hH.2.1 (a - 1) t0 he ht rfl hd (k _ _ _ _ _ _ _ _ _ _ _ _ _ _ _ S)
  · rw [ent_ra ho.2.2 (by omega)] at he
    exact va_alen hC.1 hC.2.1 hC.2.2.2.2.2.1.1 hH.2.1 (a - 1) t0 he ht rfl hd (k _ _ _ _ _ _ _ _ _ _ _ _ _ _ _ S)
theorem px_sld {i : Int32} (hd : decode d.co pc = .ok (.iaload, 1)) (hin : vp_in i E.L) (k : PR E d ne (pc + 1) lo (.int (E.xs i.toNatClampNeg) :: st) M Q) : PR E d ne pc lo (.int i :: .ref 0 :: st) M Q := by
  intro p e R s m args below meth c' H ls locs cells slots Z S
  obtain ⟨hC, hR, hl0, hlen, hH, hrest⟩ := id S
  obtain ⟨scr, q1, q2, q3, q4, q5⟩ := hH.2.2.1
  have hlt : i.toNatClampNeg < E.L := Nat.not_le.mp fun q => hin (Or.inr q)
  exact W.iald (a := E.b) (j := i) (v := .int (E.xs i.toNatClampNeg)) hC.1 hC.2.1 q1 q2 q3 (by rw [q4]; exact hin) (q5 _ hlt) rfl rfl hd (k _ _ _ _ _ _ _ _ _ _ _ _ _ _ _ S)
theorem px_slen (hd : decode d.co pc = .ok (.arraylength, 1)) (k : PR E d ne (pc + 1) lo (.int (Int32.ofNat E.L) :: st) M Q) : PR E d ne pc lo (.ref 0 :: st) M Q := by
  intro p e R s m args below meth c' H ls locs cells slots Z S
  obtain ⟨hC, hR, hl0, hlen, hH, hrest⟩ := id S
  obtain ⟨scr, q1, q2, q3, q4, q5⟩ := hH.2.2.1
  exact W.alen (a := E.b) (n := Int32.ofNat E.L) hC.1 hC.2.1 q1 q2 (by rw [q4]) rfl rfl hd (k _ _ _ _ _ _ _ _ _ _ _ _ _ _ _ S)
/-- aaload -/
theorem px_aald0 {a kk n r t0 : Nat} {C : String} {i : Int32} (hd : decode d.co pc = .ok (.aaload, 1)) (h1 : 1 ≤ a) (h2 : a ≤ xN M) (h3 : a < 1000) (hk : xK a = (kk, n)) (h23 : 23 ≤ kk) (ht : ∀ E : xE, (xtys E)[t0]? = some (E.cA kk, .object C)) (hin : vp_in i n) (hr : M.2.1 a i.toNatClampNeg = r) (h0 : 0 < r)
    (k : PR E d ne (pc + 1) lo (.ref r :: st) M Q) : PR E d ne pc lo (.int i :: .ref a :: st) M Q := by
  intro p e R s m args below meth c' H ls locs cells slots Z S
  obtain ⟨hC, hR, hl0, hlen, hH, hrest⟩ := id S
  have he := ws_at E M h1 h2
  rw [ent_ra hk h23] at he
  rw [List.map_cons, List.map_cons, cv_ref h1 h3]
  refine va_aldq (i := i) hC.1 hC.2.1 hC.2.2.2.2.2.1.1 hH.2.1 (a - 1) t0 he (ht E) hin hd ?_
  rw [hr]
  unfold xrf
  rw [if_neg (by omega)]
  exact k _ _ _ _ _ _ _ _ _ _ _ _ _ _ _ S
theorem px_aald {a kk n r t0 : Nat} {C : String} {i : Int32} (hd : decode d.co pc = .ok (.aaload, 1)) (ho : xar a kk n) (h23 : 23 ≤ kk) (ht : ∀ E : xE, (xtys E)[t0]? = some (E.cA kk, .object C)) (hM : xNT ≤ xN M) (hin : vp_in i n) (hr : M.2.1 a i.toNatClampNeg = r) (h0 : 0 < r)
    (k : PR E d ne (pc + 1) lo (.ref r :: st) M Q) : PR E d ne pc lo (.int i :: .ref a :: st) M Q :=
  px_aald0 hd ho.1 (Nat.le_trans ho.2.1 hM) (Nat.lt_of_le_of_lt ho.2.1 (by decide)) ho.2.2 h23 ht hin hr h0 k
/-- aastore of an object of class c -/
theorem px_aast0 {a kk n r t0 c : Nat} {i : Int32} (hd : decode d.co pc = .ok (.aastore, 1)) (h1 : 1 ≤ a) (h2 : a ≤ xN M) (h3 : a < 1000) (hk : xK a = (kk, n)) (h23 : 23 ≤ kk) (hcl : vwCl[c]? = some (xcl c)) (ht : ∀ E : xE, (xtys E)[t0]? = some (E.cA kk, .object (xcl c).1)) (hin : vp_in i n) (r1 : 1 ≤ r) (r2 : r ≤ xN M) (r3 : r < 1000) (hrk : (xK r).1 = c) (hc : c < 20)
    (k : PR E d ne (pc + 1) lo st (wR M a i.toNatClampNeg r) Q) : PR E d ne pc lo (.ref r :: .int i :: .ref a :: st) M Q := by
  intro p e R s m args below meth c' H ls locs cells slots Z S
  obtain ⟨hC, hR, hl0, hlen, hH, hS, hb1, hb2, hb3⟩ := id S
  have hP := hH.2.1
  have hK := hC.2.2.2.2.2.1.1
  have he := ws_at E M h1 h2
  rw [ent_ra hk h23] at he
  have hv := ws_at E M r1 r2
  rw [ent_ob hrk hc] at hv
  rw [List.map_cons, List.map_cons, List.map_cons, cv_ref h1 h3, cv_ref r1 r3]
  have hlt : i.toNatClampNeg < n := Nat.not_le.mp fun q => hin (Or.inr q)
  have h0 : ¬ i < 0 := fun q => hin (Or.inl q)
  obtain ⟨r', hr', cellV, g1, g2, g3, -⟩ := hP (r - 1) _ hv
  have hcls := (hK.1 c _ hcl).2
  obtain ⟨kA, comp, k1, k2, k3, -⟩ := (hK.2 t0 _ (ht E)).2
  have hcomp : comp = E.D.1 c := Option.some.inj (k3.symm.trans hcls.1)
  subst hcomp
  obtain ⟨kC, hkC, -⟩ := hcls.2
  refine W.aast hC.1 hC.2.1 (hP (a - 1) _ he) (fun q h => by cases h) (fun h => by cases h) k1 k2 rfl hkC ⟨h0, by show _ < (arrV _ _ _).slots.size; rw [arrV_size]; exact hlt⟩ g1 (fun q h => by rw [g3] at h; cases h) (by rw [g2]; exact hkC) (by rw [g2]; exact va_assign hcls) rfl rfl hd fun H1 e1 z oq => ?_
  refine k p e R s m args below meth c' H1 ls _ cells slots Z ⟨hC, hR, hl0, hlen, hH.set h1 h2 (M' := wR M a i.toNatClampNeg r) rfl (fun b hb => ent_wR hb) ?_ z oq, hS.put z oq (Nat.le_add_right _ _), hb1, hb2, hb3⟩
  rw [ent_ra hk h23]
  show H1[E.base + (a - 1)]? = some (vp_cell _ _)
  rw [e1]
  rw [vp_cell_q, vp_cell_q, arrV_store]
  congr 2
  funext q
  rw [xR_wR]
  by_cases hq : q = i.toNatClampNeg
  · subst hq
    rw [if_pos ⟨rfl, rfl⟩]
    unfold xrf
    rw [if_neg (by omega), ad_in r1 r3]
    simp [updV, va_rf]
  · rw [if_neg (fun z => hq z.2)]
    simp [updV, hq]
end HEAP2
end
section
/-! ===== contracts and calls ===== -/
theorem xSZ_mono {m n : Nat} (h : m ≤ n) : xSZ m ≤ xSZ n := by
  induction n with
  | zero => have : m = 0 := by omega
            subst this; exact Nat.le_refl _
  | succ n ih =>
    by_cases hm : m = n + 1
    · subst hm; exact Nat.le_refl _
    · exact Nat.le_trans (ih (by omega)) (Nat.le_add_right _ _)
def Pc0 (E : xE) (args : List Value) (M : xMem) : Array Value → State → Prop := fun v U => v = (args.map (cv E)).toArray ∧ Hold E M U U.heap ∧ xKN E U
def Qc0 (E : xE) (ne : Nat) (Q : Option Value → xMem → Prop) : Array Value → State → Outcome → State → Prop := fun _ st o t => (∃ (r : Option Value) (M : xMem), o = .returned (r.map (cv E)) ∧ Q r M ∧ xN M = ne ∧ Hold E M t t.heap) ∧ va_F (xA E) st t
/-- a method's contract: from the memory M, with these arguments, it comes back with Q; ne cells are there then -/
def Ct (E : xE) (d : xMD) (args : List Value) (M : xMem) (ne : Nat) (Q : Option Value → xMem → Prop) : Prop :=
  Met E.l d.nm (xws d) { frames := d.fr, cells := ne - xN M, slots := xSZ ne - xSZ (xN M), locals := d.lo } (Pc0 E args M) (Qc0 E ne Q) (ne - xN M) (xSZ ne - xSZ (xN M)) (xA E)
/-- the same, with one answer and one memory -/
def Cf (E : xE) (d : xMD) (args : List Value) (M : xMem) (r : Option Value) (M' : xMem) : Prop := Ct E d args M (xN M) (fun r' m => r' = r ∧ m = M')
def xargs : List Value → List (Option Value)
  | [] => []
  | .long x :: t => some (.long x) :: none :: xargs t
  | .double x :: t => some (.double x) :: none :: xargs t
  | v :: t => some v :: xargs t
theorem xargs_lv (E : xE) : ∀ (vs : List Value) (i n : Nat), ∀ q ∈ lvl E i (xargs vs ++ List.replicate n none), q ∈ lv_args i (vs.map (cv E))
  | [], i, n, q, h => by
    obtain ⟨j, v, h1, -⟩ := (lvl_mem _ i q).mp h
    rw [xargs, List.nil_append] at h1
    have := List.mem_of_getElem? h1
    have := List.eq_of_mem_replicate this
    cases this
  | v :: t, i, n, q, h => by
    cases v with
    | long x =>
      simp only [xargs, List.cons_append, lvl, List.mem_cons] at h
      rcases h with h | h
      · rw [h]; simp [lv_args, cv]
      · have := xargs_lv E t (i + 1 + 1) n q h
        simp only [List.map_cons, lv_args, List.mem_cons]
        right
        simpa [cv, Value.category] using this
    | double x =>
      simp only [xargs, List.cons_append, lvl, List.mem_cons] at h
      rcases h with h | h
      · rw [h]; simp [lv_args, cv]
      · have := xargs_lv E t (i + 1 + 1) n q h
        simp only [List.map_cons, lv_args, List.mem_cons]
        right
        simpa [cv, Value.category] using this
    | _ =>
      simp only [xargs, List.cons_append, lvl, List.mem_cons] at h
      rcases h with h | h
      · rw [h]; simp [lv_args, cv]
      · have := xargs_lv E t (i + 1) n q h
        simp only [List.map_cons, lv_args, List.mem_cons]
        right
        simpa [cv, Value.category] using this
theorem xargs_len (E : xE) : ∀ (vs : List Value), (lg_sl (vs.map (cv E))).length = (xargs vs).length
  | [] => rfl
  | v :: t => by
    have := xargs_len E t
    cases v <;> simp [lg_sl, xargs, cv, Value.category] at this ⊢ <;> exact this
theorem Ct.of {E : xE} {d : xMD} {args : List Value} {lo : List (Option Value)} {M : xMem} {ne : Nat} {Q : Option Value → xMem → Prop} (hy : plainName d.nm.cls = true) (hn : (xargs args).length ≤ d.ml) (hlo : xargs args ++ List.replicate (d.ml - (xargs args).length) none = lo) (hne : xN M ≤ ne) (h : PR E d ne 0 lo [] M Q) : Ct E d args M ne Q := by
  refine Met.ofW (cc := d.co) (maxL := d.ml) (ret := d.rt) hy rfl ?_
  intro p e s m args' below meth c s₁ B hml hv
  obtain ⟨rfl, hH, hKN⟩ := hv
  have hts := atoms_spec (ws := xws d) B.pre
  have hown : s.vm.findClass d.nm.cls = some m.cls := findClass_of_methodNamed B.named
  have hnm : meth.name = d.nm.name := (name_of_methodNamed B.named B.method).1
  have hlocks := B.notSynchronized
  have hl := lv_entry (args.map (cv E)) (n := d.ml) (by rw [xargs_len]; exact hn)
  rw [lg_entry_eq]
  generalize (lg_sl (args.map (cv E)) ++ List.replicate (d.ml - (lg_sl (args.map (cv E))).length) Slot.unset).toArray = ls at hl ⊢
  subst hlo
  refine h p e _ s m _ below meth c s.heap ls [] 0 0 _ ⟨⟨B.exec, B.bytes, hml, hown, fun w hw => hts w (List.mem_cons_of_mem _ hw), hKN, Nat.le_refl _, Nat.le_refl _, hnm, hH.2.2.2.2.2⟩, ?_, ⟨hl.1, hl.2.1, fun q hq => hl.2.2 q (xargs_lv E args 0 _ q hq)⟩, by rw [List.length_append, List.length_replicate]; omega, hH, va_S.rf, hne, by rw [Nat.zero_add]; exact Nat.le_refl _, by rw [Nat.zero_add]; exact Nat.le_refl _⟩
  intro r M' H' ls' pc' locs' cells' slots' hq hnn hok hH' hS' hc' hs'
  refine W.widen hc' hs' ?_
  have fin : ∀ t : State, t.heap = H' → s.WarmedH t.vm → Qc0 E ne Q (args.map (cv E)).toArray s (.returned (r.map (cv E))) t := fun t ht hW => ⟨⟨r, M', rfl, hq, hnn, by rw [ht]; exact hH'.moved hW.alike⟩, hS'.F ht⟩
  cases r with
  | none => exact W.vret B.exec B.bytes (B.returns.trans hok.2) fin hS'.2.2 hok.1
  | some v =>
    cases v with
    | int x =>
      obtain ⟨h1, ty, h2, h3⟩ := hok
      exact W.zret B.exec B.bytes (B.returns.trans h2) h3 fin hS'.2.2 h1
    | long x => exact W.lret B.exec B.bytes (B.returns.trans hok.2) fin hS'.2.2 hok.1
    | ref x =>
      obtain ⟨h1, ty, h2, h3⟩ := hok
      exact W.aret B.exec B.bytes (B.returns.trans h2) h3 (Or.inr ⟨_, rfl⟩) fin hS'.2.2 h1
    | null => exact hok.elim
    | float x => exact hok.elim
    | double x => exact hok.elim
    | retAddr x => exact hok.elim
theorem Pc0.blind (E : xE) (args : List Value) (M : xMem) : FrameBlind (Pc0 E args M) := by
  intro a U g mk h
  exact ⟨h.1, h.2.1.moved (u := U) (U := U.calling g mk a) (Vm.Alike.refl U.vm), xKN.same (u := U) (U := U.calling g mk a) rfl h.2.2⟩
/-- what a call asks of the tables and the room -/
def xC0 (d : xMD) (d' : xMD) (n : Nat) : Prop := Cond.initialized d'.nm.cls ∈ xwl ∧ Cond.code d'.nm d'.co d'.ml d'.rt ∈ xwl ∧ (d'.nm.cls ≠ "java/lang/invoke/MethodHandle" ∧ d'.nm.cls ≠ "java/lang/invoke/VarHandle") ∧ (parseMethodDescriptor d'.nm.desc).map (fun q => q.parameters.length) = some n ∧ d'.fr + 1 ≤ d.fr ∧ 8 + (d'.ml + 11) + d'.lo ≤ d.lo
def xCV (d : xMD) (idx : Nat) (d' : xMD) (n c : Nat) : Prop := xC0 d d' n ∧ Cond.methodLink d.nm.cls idx d'.nm ∈ xwl ∧ Cond.instanceMethod d'.nm ∈ xwl ∧ Cond.selects d'.nm.cls d'.nm d'.nm ∈ xwl ∧ vwCl[c]? = some (xcl c) ∧ (xcl c).1 = d'.nm.cls ∧ c < 20
def xCS (d : xMD) (idx : Nat) (d' : xMD) (n : Nat) : Prop := xC0 d d' n ∧ Cond.methodLink d.nm.cls idx d'.nm ∈ xwl ∧ Cond.static d'.nm ∈ xwl
def xCI (d : xMD) (idx : Nat) (d' : xMD) (n : Nat) : Prop := xC0 d d' n ∧ Cond.methodLink d.nm.cls idx d'.nm ∈ xwl ∧ Cond.instanceMethod d'.nm ∈ xwl ∧ d'.nm.name = "<init>" ∧ d'.rt = none
def xCIN (d : xMD) (idx : Nat) (d' : xMD) (n : Nat) (host : String) : Prop := xC0 d d' n ∧ Cond.methodLinkNest d.nm.cls idx d'.nm host ∈ xnest ∧ Cond.instanceMethod d'.nm ∈ xwl ∧ d'.nm.name = "<init>" ∧ d'.rt = none
def xCSN (d : xMD) (idx : Nat) (d' : xMD) (n : Nat) (host : String) : Prop := xC0 d d' n ∧ Cond.methodLinkNest d.nm.cls idx d'.nm host ∈ xnest ∧ Cond.static d'.nm ∈ xwl
theorem xwl_good {w : Cond} (h : w ∈ xwl) : (w.onTables && w.keeps) = true ∨ ∃ ty, w = .arrayClass ty := good_of_word (List.mem_filter.mp h).2
theorem xws_warm {d' : xMD} {args : Array Value} {s : State} (hts : ∀ w ∈ xwl, w.before args s = true) (hc : Cond.code d'.nm d'.co d'.ml d'.rt ∈ xwl) : ∀ w ∈ xws d', ∀ (a' : Array Value) (U : State), s.WarmedH U.vm → w.before a' U = true := by
  intro w hw a' U hW
  rcases List.mem_cons.mp hw with rfl | h
  · exact word_at hW (xwl_good hc) (hts _ hc)
  · exact word_at hW (xwl_good h) (hts _ h)
section CALL
variable {E : xE} {d : xMD} {ne pc : Nat} {lo : List (Option Value)} {st : List Value} {M : xMem} {Q : Option Value → xMem → Prop}
variable {p : Program} {e : Env} {R : Room} {s : State} {m : MethodId} {args : Array Value} {below : List Frame} {meth : Method} {c : Code} {H : Heap} {ls : Array Slot} {locs : List Loc} {cells slots : Nat} {Z : State → Prop}
theorem px_after {ne' mc ms : Nat} {Q' : Option Value → xMem → Prop} {a' : Array Value} {st0 rest : List Value} (hr : va_Run p E.l e R s m args below meth c H locs cells slots mc ms (F0 m pc ls st0) rest (Qc0 E ne' Q' a') (xA E)) (hS : va_S (xA E) s.heap H locs)
    (kk : ∀ (r : Option Value) (M' : xMem) (H1 : Heap) (locs1 : List Loc), Q' r M' → xN M' = ne' → Hold E M' s H1 → va_S (xA E) s.heap H1 locs1 → W p E.l e R s m args below meth c H1 locs1 (cells + mc) (slots + ms) Z (F0 m (pc + 3) ls ((r.map (cv E)).toList ++ rest))) :
    W p E.l e R s m args below meth c H locs cells slots Z (F0 m pc ls st0) := by
  intro T hT X
  obtain ⟨v, st₀, t, T', L, h0, X', hL, e1, e2, ⟨⟨r, M', hv, hq, hn, hH⟩, hz, hk⟩, st⟩ := hr T hT X
  cases hv
  rw [h0] at hz hk
  obtain ⟨t2, a1, b1⟩ := kk r M' T'.heap (locs ++ L) hq hn (by rw [e1]; exact hH.moved (by rw [← e2]; exact X'.warmed.alike.symm))
    ⟨Nat.le_trans hS.1 (by rw [e1]; exact hz), fun q h1 h2 => by rw [e1, hk q (Nat.lt_of_lt_of_le h1 hS.1) h2]; exact hS.2.1 q h1 h2, fun q hq => by
      rcases List.mem_append.mp hq with h | h
      · exact hS.2.2 q h
      · exact hL q h⟩ T' rfl X'
  exact ⟨t2, st t2 a1, b1⟩
theorem xC0.b {d' : xMD} {n own : Nat} {idx : Nat} {mc ms : Nat} (h : xC0 d d' n) (hts : ∀ w ∈ xwl, w.before args s = true) (hfr : d.fr ≤ R.frames) (hlo : d.lo ≤ R.locals) (hl : Cond.methodLink d.nm.cls idx d'.nm ∈ xwl) : CallB R s args d.nm.cls idx d'.nm d'.co d'.ml d'.rt (xws d') { frames := d'.fr, cells := mc, slots := ms, locals := d'.lo } mc ms n := by
  obtain ⟨h1, h2, h3, h4, h5, h6⟩ := h
  refine ⟨rfl, rfl, Nat.le_trans h5 hfr, Nat.le_trans h6 hlo, xws_warm hts h2, List.mem_cons_self, hts _ h2, hts _ h1, h3, fun sig hs => ?_, hts _ hl⟩
  rw [hs] at h4
  exact (Option.some.inj h4).symm
theorem xC0.n {d' : xMD} {n own : Nat} {idx : Nat} {host : String} {mc ms : Nat} (h : xC0 d d' n) (hts : ∀ w ∈ xwl, w.before args s = true) (hfr : d.fr ≤ R.frames) (hlo : d.lo ≤ R.locals) (hK : xKN E s) (hl : Cond.methodLinkNest d.nm.cls idx d'.nm host ∈ xnest) : va_CN R s args d.nm.cls idx d'.nm host d'.co d'.ml d'.rt (xws d') { frames := d'.fr, cells := mc, slots := ms, locals := d'.lo } mc ms n := by
  obtain ⟨h1, h2, h3, h4, h5, h6⟩ := h
  refine ⟨⟨rfl, rfl, Nat.le_trans h5 hfr, Nat.le_trans h6 hlo, xws_warm hts h2, List.mem_cons_self⟩, hts _ h2, hts _ h1, h3, fun sig hs => ?_, va_Nw.use rfl (hK.2.1 _ hl)⟩
  rw [hs] at h4
  exact (Option.some.inj h4).symm
end CALL
section CALL2
variable {E : xE} {d : xMD} {ne pc : Nat} {lo : List (Option Value)} {st : List Value} {M : xMem} {Q : Option Value → xMem → Prop}
theorem px_cV {d' : xMD} {idx a cc : Nat} {As : List Value} {ne' : Nat} {Q' : Option Value → xMem → Prop} (hd : decode d.co pc = .ok (.invokevirtual idx, 3)) (hw : xCV d idx d' As.length cc) (h1 : 1 ≤ a) (h2 : a ≤ xN M) (h3 : a < 1000) (hk : (xK a).1 = cc) (hn1 : xN M ≤ ne') (hn2 : ne' ≤ ne) (hW : (st.map fun v => v.category).sum ≤ 8)
    (h : Ct E d' (.ref a :: As) M ne' Q') (k : ∀ r M', Q' r M' → xN M' = ne' → PR E d ne (pc + 3) lo (r.toList ++ st) M' Q) : PR E d ne pc lo (As.reverse ++ .ref a :: st) M Q := by
  intro p e R s m args below meth c H ls locs cells slots Z S
  obtain ⟨hC, hR, hl0, hlen, hH, hS, hb1, hb2, hb3⟩ := id S
  obtain ⟨hx, hb, hml, hown, hts, hKN, hfr, hlo, hnm, hbs⟩ := id hC
  have g1 := xSZ_mono hn1
  have g2 := xSZ_mono hn2
  rw [List.map_append, List.map_reverse, List.map_cons]
  refine px_after (va_runV (C := d'.nm.cls) (As := As.map (cv E)) (rest := st.map (cv E)) (b := ad E a) ⟨hx, hb, hml, hown, hts⟩ h ⟨xC0.b (own := 0) hw.1 hts hfr hlo hw.2.1, hts _ hw.2.2.1, hts _ hw.2.2.2.1⟩ ⟨Pc0.blind _ _ _, ?_, fun U hU hWm => ⟨rfl, by rw [hU]; exact hH.moved hWm.alike, hKN.warm hWm⟩⟩ rfl (by rw [List.length_map]) hl0.1 rfl (lv_room (by rw [cv_sum]; exact hW)) hd ⟨by omega, by omega⟩) hS (fun r M' H1 locs1 hq hn hH1 hS1 => ?_)
  · have he := ws_at E M h1 h2
    rw [ent_ob hk hw.2.2.2.2.2.2] at he
    obtain ⟨r, g1, cell, q1, q2, q3, q4⟩ := hH.2.1 (a - 1) _ he
    obtain ⟨-, hfc, -⟩ := hKN.1.1 cc _ hw.2.2.2.2.1
    refine ⟨cell, by rw [ad_in h1 h3]; exact q1, by rw [q3]; rfl, ?_⟩
    rw [q2, ← hw.2.2.2.2.2.1]; exact hfc
  · have e1 : (r.map (cv E)).toList ++ st.map (cv E) = (r.toList ++ st).map (cv E) := by cases r <;> rfl
    rw [e1]
    exact k r M' hq hn p e R s m args below meth c H1 ls locs1 _ _ Z ⟨hC, hR, hl0, hlen, hH1, hS1, by omega, by rw [hn]; omega, by rw [hn]; omega⟩
theorem px_cS {d' : xMD} {idx : Nat} {As : List Value} {ne' : Nat} {Q' : Option Value → xMem → Prop} (hd : decode d.co pc = .ok (.invokestatic idx, 3)) (hw : xCS d idx d' As.length) (hn1 : xN M ≤ ne') (hn2 : ne' ≤ ne) (hW : (st.map fun v => v.category).sum ≤ 8)
    (h : Ct E d' As M ne' Q') (k : ∀ r M', Q' r M' → xN M' = ne' → PR E d ne (pc + 3) lo (r.toList ++ st) M' Q) : PR E d ne pc lo (As.reverse ++ st) M Q := by
  intro p e R s m args below meth c H ls locs cells slots Z S
  obtain ⟨hC, hR, hl0, hlen, hH, hS, hb1, hb2, hb3⟩ := id S
  obtain ⟨hx, hb, hml, hown, hts, hKN, hfr, hlo, hnm, hbs⟩ := id hC
  have g1 := xSZ_mono hn1
  have g2 := xSZ_mono hn2
  rw [List.map_append, List.map_reverse]
  refine px_after (va_runS (As := As.map (cv E)) (rest := st.map (cv E)) ⟨hx, hb, hml, hown, hts⟩ h ⟨xC0.b (own := 0) hw.1 hts hfr hlo hw.2.1, hts _ hw.2.2⟩ ⟨Pc0.blind _ _ _, fun U hU hWm => ⟨rfl, by rw [hU]; exact hH.moved hWm.alike, hKN.warm hWm⟩⟩ rfl (by rw [List.length_map]) hl0.1 rfl (lv_room (by rw [cv_sum]; exact hW)) hd ⟨by omega, by omega⟩) hS (fun r M' H1 locs1 hq hn hH1 hS1 => ?_)
  have e1 : (r.map (cv E)).toList ++ st.map (cv E) = (r.toList ++ st).map (cv E) := by cases r <;> rfl
  rw [e1]
  exact k r M' hq hn p e R s m args below meth c H1 ls locs1 _ _ Z ⟨hC, hR, hl0, hlen, hH1, hS1, by omega, by rw [hn]; omega, by rw [hn]; omega⟩
theorem px_cSN {d' : xMD} {idx : Nat} {host : String} {As : List Value} {ne' : Nat} {Q' : Option Value → xMem → Prop} (hd : decode d.co pc = .ok (.invokestatic idx, 3)) (hw : xCSN d idx d' As.length host) (hn1 : xN M ≤ ne') (hn2 : ne' ≤ ne) (hW : (st.map fun v => v.category).sum ≤ 8)
    (h : Ct E d' As M ne' Q') (k : ∀ r M', Q' r M' → xN M' = ne' → PR E d ne (pc + 3) lo (r.toList ++ st) M' Q) : PR E d ne pc lo (As.reverse ++ st) M Q := by
  intro p e R s m args below meth c H ls locs cells slots Z S
  obtain ⟨hC, hR, hl0, hlen, hH, hS, hb1, hb2, hb3⟩ := id S
  obtain ⟨hx, hb, hml, hown, hts, hKN, hfr, hlo, hnm, hbs⟩ := id hC
  have g1 := xSZ_mono hn1
  have g2 := xSZ_mono hn2
  rw [List.map_append, List.map_reverse]
  refine px_after (va_runSN (As := As.map (cv E)) (rest := st.map (cv E)) ⟨hx, hb, hml, hown, hts⟩ h ⟨xC0.n (own := 0) hw.1 hts hfr hlo hKN hw.2.1, hts _ hw.2.2, trivial⟩ ⟨Pc0.blind _ _ _, fun U hU hWm => ⟨rfl, by rw [hU]; exact hH.moved hWm.alike, hKN.warm hWm⟩⟩ rfl (by rw [List.length_map]) hl0.1 rfl (lv_room (by rw [cv_sum]; exact hW)) hd ⟨by omega, by omega⟩) hS (fun r M' H1 locs1 hq hn hH1 hS1 => ?_)
  have e1 : (r.map (cv E)).toList ++ st.map (cv E) = (r.toList ++ st).map (cv E) := by cases r <;> rfl
  rw [e1]
  exact k r M' hq hn p e R s m args below meth c H1 ls locs1 _ _ Z ⟨hC, hR, hl0, hlen, hH1, hS1, by omega, by rw [hn]; omega, by rw [hn]; omega⟩
theorem px_cI {d' : xMD} {idx a : Nat} {As : List Value} {ne' : Nat} {Q' : Option Value → xMem → Prop} (hd : decode d.co pc = .ok (.invokespecial idx, 3)) (hw : xCI d idx d' As.length) (hn1 : xN M ≤ ne') (hn2 : ne' ≤ ne) (hW : (st.map fun v => v.category).sum ≤ 8)
    (h : Ct E d' (.ref a :: As) M ne' Q') (k : ∀ r M', Q' r M' → xN M' = ne' → PR E d ne (pc + 3) lo (r.toList ++ st) M' Q) : PR E d ne pc lo (As.reverse ++ .ref a :: st) M Q := by
  intro p e R s m args below meth c H ls locs cells slots Z S
  obtain ⟨hC, hR, hl0, hlen, hH, hS, hb1, hb2, hb3⟩ := id S
  obtain ⟨hx, hb, hml, hown, hts, hKN, hfr, hlo, hnm, hbs⟩ := id hC
  have g1 := xSZ_mono hn1
  have g2 := xSZ_mono hn2
  rw [List.map_append, List.map_reverse, List.map_cons]
  have cb := xC0.b (R := R) (s := s) (args := args) (own := 0) (mc := ne' - xN M) (ms := xSZ ne' - xSZ (xN M)) hw.1 hts hfr hlo hw.2.1
  rw [hw.2.2.2.2] at cb
  refine px_after (va_runI (As := As.map (cv E)) (rest := st.map (cv E)) (b := ad E a) ⟨hx, hb, hml, hown, hts⟩ h ⟨cb, hw.2.2.2.1, hts _ hw.2.2.1⟩ ⟨Pc0.blind _ _ _, fun U hU hWm => ⟨rfl, by rw [hU]; exact hH.moved hWm.alike, hKN.warm hWm⟩⟩ rfl (by rw [List.length_map]) hl0.1 rfl (lv_room (by rw [cv_sum]; exact hW)) hd ⟨by omega, by omega⟩) hS (fun r M' H1 locs1 hq hn hH1 hS1 => ?_)
  have e1 : (r.map (cv E)).toList ++ st.map (cv E) = (r.toList ++ st).map (cv E) := by cases r <;> rfl
  rw [e1]
  exact k r M' hq hn p e R s m args below meth c H1 ls locs1 _ _ Z ⟨hC, hR, hl0, hlen, hH1, hS1, by omega, by rw [hn]; omega, by rw [hn]; omega⟩
theorem px_cIN {d' : xMD} {idx a : Nat} {host : String} {As : List Value} {ne' : Nat} {Q' : Option Value → xMem → Prop} (hd : decode d.co pc = .ok (.invokespecial idx, 3)) (hw : xCIN d idx d' As.length host) (hn1 : xN M ≤ ne') (hn2 : ne' ≤ ne) (hW : (st.map fun v => v.category).sum ≤ 8)
    (h : Ct E d' (.ref a :: As) M ne' Q') (k : ∀ r M', Q' r M' → xN M' = ne' → PR E d ne (pc + 3) lo (r.toList ++ st) M' Q) : PR E d ne pc lo (As.reverse ++ .ref a :: st) M Q := by
  intro p e R s m args below meth c H ls locs cells slots Z S
  obtain ⟨hC, hR, hl0, hlen, hH, hS, hb1, hb2, hb3⟩ := id S
  obtain ⟨hx, hb, hml, hown, hts, hKN, hfr, hlo, hnm, hbs⟩ := id hC
  have g1 := xSZ_mono hn1
  have g2 := xSZ_mono hn2
  rw [List.map_append, List.map_reverse, List.map_cons]
  have cb := xC0.n (R := R) (s := s) (args := args) (own := 0) (mc := ne' - xN M) (ms := xSZ ne' - xSZ (xN M)) hw.1 hts hfr hlo hKN hw.2.1
  rw [hw.2.2.2.2] at cb
  refine px_after (va_runIN (As := As.map (cv E)) (rest := st.map (cv E)) (b := ad E a) ⟨hx, hb, hml, hown, hts⟩ h ⟨cb, hw.2.2.2.1, hts _ hw.2.2.1⟩ ⟨Pc0.blind _ _ _, fun U hU hWm => ⟨rfl, by rw [hU]; exact hH.moved hWm.alike, hKN.warm hWm⟩⟩ rfl (by rw [List.length_map]) hl0.1 rfl (lv_room (by rw [cv_sum]; exact hW)) hd ⟨by omega, by omega⟩) hS (fun r M' H1 locs1 hq hn hH1 hS1 => ?_)
  have e1 : (r.map (cv E)).toList ++ st.map (cv E) = (r.toList ++ st).map (cv E) := by cases r <;> rfl
  rw [e1]
  exact k r M' hq hn p e R s m args below meth c H1 ls locs1 _ _ Z ⟨hC, hR, hl0, hlen, hH1, hS1, by omega, by rw [hn]; omega, by rw [hn]; omega⟩
end CALL2
end
section
section CALL3
variable {E : xE} {d : xMD} {ne pc : Nat} {lo : List (Option Value)} {st : List Value} {M : xMem} {Q : Option Value → xMem → Prop}
theorem px_gV {d' : xMD} {idx a cc : Nat} {As : List Value} {Q' : Option Value → xMem → Prop} (hd : decode d.co pc = .ok (.invokevirtual idx, 3)) (hw : xCV d idx d' As.length cc) (ho : xob a cc) (hM : xNT ≤ xN M) (hW : (st.map fun v => v.category).sum ≤ 8)
    (h : Ct E d' (.ref a :: As) M (xN M) Q') (k : ∀ r M', Q' r M' → xN M' = xN M → PR E d ne (pc + 3) lo (r.toList ++ st) M' Q) : PR E d ne pc lo (As.reverse ++ .ref a :: st) M Q := by
  intro p e R s m args below meth c H ls locs cells slots Z S
  exact px_cV hd hw ho.1 (Nat.le_trans ho.2.1 hM) (Nat.lt_of_le_of_lt ho.2.1 (by decide)) ho.2.2 (Nat.le_refl _) S.2.2.2.2.2.2.1 hW h k p e R s m args below meth c H ls locs cells slots Z S
theorem px_gS {d' : xMD} {idx : Nat} {As : List Value} {Q' : Option Value → xMem → Prop} (hd : decode d.co pc = .ok (.invokestatic idx, 3)) (hw : xCS d idx d' As.length) (hW : (st.map fun v => v.category).sum ≤ 8)
    (h : Ct E d' As M (xN M) Q') (k : ∀ r M', Q' r M' → xN M' = xN M → PR E d ne (pc + 3) lo (r.toList ++ st) M' Q) : PR E d ne pc lo (As.reverse ++ st) M Q := by
  intro p e R s m args below meth c H ls locs cells slots Z S
  exact px_cS hd hw (Nat.le_refl _) S.2.2.2.2.2.2.1 hW h k p e R s m args below meth c H ls locs cells slots Z S
theorem px_gSN {d' : xMD} {idx : Nat} {host : String} {As : List Value} {Q' : Option Value → xMem → Prop} (hd : decode d.co pc = .ok (.invokestatic idx, 3)) (hw : xCSN d idx d' As.length host) (hW : (st.map fun v => v.category).sum ≤ 8)
    (h : Ct E d' As M (xN M) Q') (k : ∀ r M', Q' r M' → xN M' = xN M → PR E d ne (pc + 3) lo (r.toList ++ st) M' Q) : PR E d ne pc lo (As.reverse ++ st) M Q := by
  intro p e R s m args below meth c H ls locs cells slots Z S
  exact px_cSN hd hw (Nat.le_refl _) S.2.2.2.2.2.2.1 hW h k p e R s m args below meth c H ls locs cells slots Z S
theorem px_fV0i {d' : xMD} {idx a cc : Nat} {w : Value} {M' : xMem} (hd : decode d.co pc = .ok (.invokevirtual idx, 3)) (hw : xCV d idx d' 0 cc) (ho : xob a cc) (hM : xNT ≤ xN M) (hW : (st.map fun v => v.category).sum ≤ 8) (h : Cf E d' [.ref a] M (some w) M') (k : PR E d ne (pc + 3) lo (w :: st) M' Q) : PR E d ne pc lo (.ref a :: st) M Q := px_gV (As := []) hd hw ho hM hW h (fun _ _ hq _ => by obtain ⟨rfl, rfl⟩ := hq; exact k)
theorem px_fV0v {d' : xMD} {idx a cc : Nat} {M' : xMem} (hd : decode d.co pc = .ok (.invokevirtual idx, 3)) (hw : xCV d idx d' 0 cc) (ho : xob a cc) (hM : xNT ≤ xN M) (hW : (st.map fun v => v.category).sum ≤ 8) (h : Cf E d' [.ref a] M none M') (k : PR E d ne (pc + 3) lo (st) M' Q) : PR E d ne pc lo (.ref a :: st) M Q := px_gV (As := []) hd hw ho hM hW h (fun _ _ hq _ => by obtain ⟨rfl, rfl⟩ := hq; exact k)
theorem px_gV0 {d' : xMD} {idx a cc : Nat} {Q' : Option Value → xMem → Prop} (hd : decode d.co pc = .ok (.invokevirtual idx, 3)) (hw : xCV d idx d' 0 cc) (ho : xob a cc) (hM : xNT ≤ xN M) (hW : (st.map fun v => v.category).sum ≤ 8) (h : Ct E d' [.ref a] M (xN M) Q') (k : ∀ r M', Q' r M' → xN M' = xN M → PR E d ne (pc + 3) lo (r.toList ++ st) M' Q) : PR E d ne pc lo (.ref a :: st) M Q := px_gV (As := []) hd hw ho hM hW h k
theorem px_fV1i {d' : xMD} {idx a cc : Nat} {v1 : Value} {w : Value} {M' : xMem} (hd : decode d.co pc = .ok (.invokevirtual idx, 3)) (hw : xCV d idx d' 1 cc) (ho : xob a cc) (hM : xNT ≤ xN M) (hW : (st.map fun v => v.category).sum ≤ 8) (h : Cf E d' [.ref a, v1] M (some w) M') (k : PR E d ne (pc + 3) lo (w :: st) M' Q) : PR E d ne pc lo (v1 :: .ref a :: st) M Q := px_gV (As := [v1]) hd hw ho hM hW h (fun _ _ hq _ => by obtain ⟨rfl, rfl⟩ := hq; exact k)
theorem px_fV1v {d' : xMD} {idx a cc : Nat} {v1 : Value} {M' : xMem} (hd : decode d.co pc = .ok (.invokevirtual idx, 3)) (hw : xCV d idx d' 1 cc) (ho : xob a cc) (hM : xNT ≤ xN M) (hW : (st.map fun v => v.category).sum ≤ 8) (h : Cf E d' [.ref a, v1] M none M') (k : PR E d ne (pc + 3) lo (st) M' Q) : PR E d ne pc lo (v1 :: .ref a :: st) M Q := px_gV (As := [v1]) hd hw ho hM hW h (fun _ _ hq _ => by obtain ⟨rfl, rfl⟩ := hq; exact k)
theorem px_gV1 {d' : xMD} {idx a cc : Nat} {v1 : Value} {Q' : Option Value → xMem → Prop} (hd : decode d.co pc = .ok (.invokevirtual idx, 3)) (hw : xCV d idx d' 1 cc) (ho : xob a cc) (hM : xNT ≤ xN M) (hW : (st.map fun v => v.category).sum ≤ 8) (h : Ct E d' [.ref a, v1] M (xN M) Q') (k : ∀ r M', Q' r M' → xN M' = xN M → PR E d ne (pc + 3) lo (r.toList ++ st) M' Q) : PR E d ne pc lo (v1 :: .ref a :: st) M Q := px_gV (As := [v1]) hd hw ho hM hW h k
theorem px_fS1i {d' : xMD} {idx : Nat} {v1 : Value} {w : Value} {M' : xMem} (hd : decode d.co pc = .ok (.invokestatic idx, 3)) (hw : xCS d idx d' 1) (hW : (st.map fun v => v.category).sum ≤ 8) (h : Cf E d' [v1] M (some w) M') (k : PR E d ne (pc + 3) lo (w :: st) M' Q) : PR E d ne pc lo (v1 :: st) M Q := px_gS (As := [v1]) hd hw hW h (fun _ _ hq _ => by obtain ⟨rfl, rfl⟩ := hq; exact k)
theorem px_fS1v {d' : xMD} {idx : Nat} {v1 : Value} {M' : xMem} (hd : decode d.co pc = .ok (.invokestatic idx, 3)) (hw : xCS d idx d' 1) (hW : (st.map fun v => v.category).sum ≤ 8) (h : Cf E d' [v1] M none M') (k : PR E d ne (pc + 3) lo (st) M' Q) : PR E d ne pc lo (v1 :: st) M Q := px_gS (As := [v1]) hd hw hW h (fun _ _ hq _ => by obtain ⟨rfl, rfl⟩ := hq; exact k)
theorem px_fV2i {d' : xMD} {idx a cc : Nat} {v1 v2 : Value} {w : Value} {M' : xMem} (hd : decode d.co pc = .ok (.invokevirtual idx, 3)) (hw : xCV d idx d' 2 cc) (ho : xob a cc) (hM : xNT ≤ xN M) (hW : (st.map fun v => v.category).sum ≤ 8) (h : Cf E d' [.ref a, v1, v2] M (some w) M') (k : PR E d ne (pc + 3) lo (w :: st) M' Q) : PR E d ne pc lo (v2 :: v1 :: .ref a :: st) M Q := px_gV (As := [v1, v2]) hd hw ho hM hW h (fun _ _ hq _ => by obtain ⟨rfl, rfl⟩ := hq; exact k)
theorem px_fV2v {d' : xMD} {idx a cc : Nat} {v1 v2 : Value} {M' : xMem} (hd : decode d.co pc = .ok (.invokevirtual idx, 3)) (hw : xCV d idx d' 2 cc) (ho : xob a cc) (hM : xNT ≤ xN M) (hW : (st.map fun v => v.category).sum ≤ 8) (h : Cf E d' [.ref a, v1, v2] M none M') (k : PR E d ne (pc + 3) lo (st) M' Q) : PR E d ne pc lo (v2 :: v1 :: .ref a :: st) M Q := px_gV (As := [v1, v2]) hd hw ho hM hW h (fun _ _ hq _ => by obtain ⟨rfl, rfl⟩ := hq; exact k)
theorem px_gV2 {d' : xMD} {idx a cc : Nat} {v1 v2 : Value} {Q' : Option Value → xMem → Prop} (hd : decode d.co pc = .ok (.invokevirtual idx, 3)) (hw : xCV d idx d' 2 cc) (ho : xob a cc) (hM : xNT ≤ xN M) (hW : (st.map fun v => v.category).sum ≤ 8) (h : Ct E d' [.ref a, v1, v2] M (xN M) Q') (k : ∀ r M', Q' r M' → xN M' = xN M → PR E d ne (pc + 3) lo (r.toList ++ st) M' Q) : PR E d ne pc lo (v2 :: v1 :: .ref a :: st) M Q := px_gV (As := [v1, v2]) hd hw ho hM hW h k
theorem px_fS2i {d' : xMD} {idx : Nat} {v1 v2 : Value} {w : Value} {M' : xMem} (hd : decode d.co pc = .ok (.invokestatic idx, 3)) (hw : xCS d idx d' 2) (hW : (st.map fun v => v.category).sum ≤ 8) (h : Cf E d' [v1, v2] M (some w) M') (k : PR E d ne (pc + 3) lo (w :: st) M' Q) : PR E d ne pc lo (v2 :: v1 :: st) M Q := px_gS (As := [v1, v2]) hd hw hW h (fun _ _ hq _ => by obtain ⟨rfl, rfl⟩ := hq; exact k)
theorem px_fS2v {d' : xMD} {idx : Nat} {v1 v2 : Value} {M' : xMem} (hd : decode d.co pc = .ok (.invokestatic idx, 3)) (hw : xCS d idx d' 2) (hW : (st.map fun v => v.category).sum ≤ 8) (h : Cf E d' [v1, v2] M none M') (k : PR E d ne (pc + 3) lo (st) M' Q) : PR E d ne pc lo (v2 :: v1 :: st) M Q := px_gS (As := [v1, v2]) hd hw hW h (fun _ _ hq _ => by obtain ⟨rfl, rfl⟩ := hq; exact k)
theorem px_fV3i {d' : xMD} {idx a cc : Nat} {v1 v2 v3 : Value} {w : Value} {M' : xMem} (hd : decode d.co pc = .ok (.invokevirtual idx, 3)) (hw : xCV d idx d' 3 cc) (ho : xob a cc) (hM : xNT ≤ xN M) (hW : (st.map fun v => v.category).sum ≤ 8) (h : Cf E d' [.ref a, v1, v2, v3] M (some w) M') (k : PR E d ne (pc + 3) lo (w :: st) M' Q) : PR E d ne pc lo (v3 :: v2 :: v1 :: .ref a :: st) M Q := px_gV (As := [v1, v2, v3]) hd hw ho hM hW h (fun _ _ hq _ => by obtain ⟨rfl, rfl⟩ := hq; exact k)
theorem px_fV3v {d' : xMD} {idx a cc : Nat} {v1 v2 v3 : Value} {M' : xMem} (hd : decode d.co pc = .ok (.invokevirtual idx, 3)) (hw : xCV d idx d' 3 cc) (ho : xob a cc) (hM : xNT ≤ xN M) (hW : (st.map fun v => v.category).sum ≤ 8) (h : Cf E d' [.ref a, v1, v2, v3] M none M') (k : PR E d ne (pc + 3) lo (st) M' Q) : PR E d ne pc lo (v3 :: v2 :: v1 :: .ref a :: st) M Q := px_gV (As := [v1, v2, v3]) hd hw ho hM hW h (fun _ _ hq _ => by obtain ⟨rfl, rfl⟩ := hq; exact k)
theorem px_gV3 {d' : xMD} {idx a cc : Nat} {v1 v2 v3 : Value} {Q' : Option Value → xMem → Prop} (hd : decode d.co pc = .ok (.invokevirtual idx, 3)) (hw : xCV d idx d' 3 cc) (ho : xob a cc) (hM : xNT ≤ xN M) (hW : (st.map fun v => v.category).sum ≤ 8) (h : Ct E d' [.ref a, v1, v2, v3] M (xN M) Q') (k : ∀ r M', Q' r M' → xN M' = xN M → PR E d ne (pc + 3) lo (r.toList ++ st) M' Q) : PR E d ne pc lo (v3 :: v2 :: v1 :: .ref a :: st) M Q := px_gV (As := [v1, v2, v3]) hd hw ho hM hW h k
theorem px_fS3i {d' : xMD} {idx : Nat} {v1 v2 v3 : Value} {w : Value} {M' : xMem} (hd : decode d.co pc = .ok (.invokestatic idx, 3)) (hw : xCS d idx d' 3) (hW : (st.map fun v => v.category).sum ≤ 8) (h : Cf E d' [v1, v2, v3] M (some w) M') (k : PR E d ne (pc + 3) lo (w :: st) M' Q) : PR E d ne pc lo (v3 :: v2 :: v1 :: st) M Q := px_gS (As := [v1, v2, v3]) hd hw hW h (fun _ _ hq _ => by obtain ⟨rfl, rfl⟩ := hq; exact k)
theorem px_fS3v {d' : xMD} {idx : Nat} {v1 v2 v3 : Value} {M' : xMem} (hd : decode d.co pc = .ok (.invokestatic idx, 3)) (hw : xCS d idx d' 3) (hW : (st.map fun v => v.category).sum ≤ 8) (h : Cf E d' [v1, v2, v3] M none M') (k : PR E d ne (pc + 3) lo (st) M' Q) : PR E d ne pc lo (v3 :: v2 :: v1 :: st) M Q := px_gS (As := [v1, v2, v3]) hd hw hW h (fun _ _ hq _ => by obtain ⟨rfl, rfl⟩ := hq; exact k)
theorem px_fV4i {d' : xMD} {idx a cc : Nat} {v1 v2 v3 v4 : Value} {w : Value} {M' : xMem} (hd : decode d.co pc = .ok (.invokevirtual idx, 3)) (hw : xCV d idx d' 4 cc) (ho : xob a cc) (hM : xNT ≤ xN M) (hW : (st.map fun v => v.category).sum ≤ 8) (h : Cf E d' [.ref a, v1, v2, v3, v4] M (some w) M') (k : PR E d ne (pc + 3) lo (w :: st) M' Q) : PR E d ne pc lo (v4 :: v3 :: v2 :: v1 :: .ref a :: st) M Q := px_gV (As := [v1, v2, v3, v4]) hd hw ho hM hW h (fun _ _ hq _ => by obtain ⟨rfl, rfl⟩ := hq; exact k)
theorem px_fV4v {d' : xMD} {idx a cc : Nat} {v1 v2 v3 v4 : Value} {M' : xMem} (hd : decode d.co pc = .ok (.invokevirtual idx, 3)) (hw : xCV d idx d' 4 cc) (ho : xob a cc) (hM : xNT ≤ xN M) (hW : (st.map fun v => v.category).sum ≤ 8) (h : Cf E d' [.ref a, v1, v2, v3, v4] M none M') (k : PR E d ne (pc + 3) lo (st) M' Q) : PR E d ne pc lo (v4 :: v3 :: v2 :: v1 :: .ref a :: st) M Q := px_gV (As := [v1, v2, v3, v4]) hd hw ho hM hW h (fun _ _ hq _ => by obtain ⟨rfl, rfl⟩ := hq; exact k)
theorem px_gV4 {d' : xMD} {idx a cc : Nat} {v1 v2 v3 v4 : Value} {Q' : Option Value → xMem → Prop} (hd : decode d.co pc = .ok (.invokevirtual idx, 3)) (hw : xCV d idx d' 4 cc) (ho : xob a cc) (hM : xNT ≤ xN M) (hW : (st.map fun v => v.category).sum ≤ 8) (h : Ct E d' [.ref a, v1, v2, v3, v4] M (xN M) Q') (k : ∀ r M', Q' r M' → xN M' = xN M → PR E d ne (pc + 3) lo (r.toList ++ st) M' Q) : PR E d ne pc lo (v4 :: v3 :: v2 :: v1 :: .ref a :: st) M Q := px_gV (As := [v1, v2, v3, v4]) hd hw ho hM hW h k
theorem px_fS4i {d' : xMD} {idx : Nat} {v1 v2 v3 v4 : Value} {w : Value} {M' : xMem} (hd : decode d.co pc = .ok (.invokestatic idx, 3)) (hw : xCS d idx d' 4) (hW : (st.map fun v => v.category).sum ≤ 8) (h : Cf E d' [v1, v2, v3, v4] M (some w) M') (k : PR E d ne (pc + 3) lo (w :: st) M' Q) : PR E d ne pc lo (v4 :: v3 :: v2 :: v1 :: st) M Q := px_gS (As := [v1, v2, v3, v4]) hd hw hW h (fun _ _ hq _ => by obtain ⟨rfl, rfl⟩ := hq; exact k)
theorem px_fS4v {d' : xMD} {idx : Nat} {v1 v2 v3 v4 : Value} {M' : xMem} (hd : decode d.co pc = .ok (.invokestatic idx, 3)) (hw : xCS d idx d' 4) (hW : (st.map fun v => v.category).sum ≤ 8) (h : Cf E d' [v1, v2, v3, v4] M none M') (k : PR E d ne (pc + 3) lo (st) M' Q) : PR E d ne pc lo (v4 :: v3 :: v2 :: v1 :: st) M Q := px_gS (As := [v1, v2, v3, v4]) hd hw hW h (fun _ _ hq _ => by obtain ⟨rfl, rfl⟩ := hq; exact k)
theorem px_fV5i {d' : xMD} {idx a cc : Nat} {v1 v2 v3 v4 v5 : Value} {w : Value} {M' : xMem} (hd : decode d.co pc = .ok (.invokevirtual idx, 3)) (hw : xCV d idx d' 5 cc) (ho : xob a cc) (hM : xNT ≤ xN M) (hW : (st.map fun v => v.category).sum ≤ 8) (h : Cf E d' [.ref a, v1, v2, v3, v4, v5] M (some w) M') (k : PR E d ne (pc + 3) lo (w :: st) M' Q) : PR E d ne pc lo (v5 :: v4 :: v3 :: v2 :: v1 :: .ref a :: st) M Q := px_gV (As := [v1, v2, v3, v4, v5]) hd hw ho hM hW h (fun _ _ hq _ => by obtain ⟨rfl, rfl⟩ := hq; exact k)
theorem px_fV5v {d' : xMD} {idx a cc : Nat} {v1 v2 v3 v4 v5 : Value} {M' : xMem} (hd : decode d.co pc = .ok (.invokevirtual idx, 3)) (hw : xCV d idx d' 5 cc) (ho : xob a cc) (hM : xNT ≤ xN M) (hW : (st.map fun v => v.category).sum ≤ 8) (h : Cf E d' [.ref a, v1, v2, v3, v4, v5] M none M') (k : PR E d ne (pc + 3) lo (st) M' Q) : PR E d ne pc lo (v5 :: v4 :: v3 :: v2 :: v1 :: .ref a :: st) M Q := px_gV (As := [v1, v2, v3, v4, v5]) hd hw ho hM hW h (fun _ _ hq _ => by obtain ⟨rfl, rfl⟩ := hq; exact k)
theorem px_gV5 {d' : xMD} {idx a cc : Nat} {v1 v2 v3 v4 v5 : Value} {Q' : Option Value → xMem → Prop} (hd : decode d.co pc = .ok (.invokevirtual idx, 3)) (hw : xCV d idx d' 5 cc) (ho : xob a cc) (hM : xNT ≤ xN M) (hW : (st.map fun v => v.category).sum ≤ 8) (h : Ct E d' [.ref a, v1, v2, v3, v4, v5] M (xN M) Q') (k : ∀ r M', Q' r M' → xN M' = xN M → PR E d ne (pc + 3) lo (r.toList ++ st) M' Q) : PR E d ne pc lo (v5 :: v4 :: v3 :: v2 :: v1 :: .ref a :: st) M Q := px_gV (As := [v1, v2, v3, v4, v5]) hd hw ho hM hW h k
theorem px_fS5i {d' : xMD} {idx : Nat} {v1 v2 v3 v4 v5 : Value} {w : Value} {M' : xMem} (hd : decode d.co pc = .ok (.invokestatic idx, 3)) (hw : xCS d idx d' 5) (hW : (st.map fun v => v.category).sum ≤ 8) (h : Cf E d' [v1, v2, v3, v4, v5] M (some w) M') (k : PR E d ne (pc + 3) lo (w :: st) M' Q) : PR E d ne pc lo (v5 :: v4 :: v3 :: v2 :: v1 :: st) M Q := px_gS (As := [v1, v2, v3, v4, v5]) hd hw hW h (fun _ _ hq _ => by obtain ⟨rfl, rfl⟩ := hq; exact k)
theorem px_fS5v {d' : xMD} {idx : Nat} {v1 v2 v3 v4 v5 : Value} {M' : xMem} (hd : decode d.co pc = .ok (.invokestatic idx, 3)) (hw : xCS d idx d' 5) (hW : (st.map fun v => v.category).sum ≤ 8) (h : Cf E d' [v1, v2, v3, v4, v5] M none M') (k : PR E d ne (pc + 3) lo (st) M' Q) : PR E d ne pc lo (v5 :: v4 :: v3 :: v2 :: v1 :: st) M Q := px_gS (As := [v1, v2, v3, v4, v5]) hd hw hW h (fun _ _ hq _ => by obtain ⟨rfl, rfl⟩ := hq; exact k)
/-- Math.max, min, abs -/
def xMa (d : xMD) (idx : Nat) (y : MethodName) (co : ByteArray) (n : Nat) : Prop := Cond.methodLink d.nm.cls idx y ∈ xwl ∧ Cond.static y ∈ xwl ∧ Cond.initialized "java/lang/Math" ∈ xwl ∧ Cond.code y co n (some .int) ∈ xwl ∧ 1 ≤ d.fr ∧ 21 ≤ d.lo
theorem px_max {idx : Nat} {x y : Int32} (hd : decode d.co pc = .ok (.invokestatic idx, 3)) (hw : xMa d idx Lib.Math.max.name Lib.Math.max.code 2) (hW : (st.map fun v => v.category).sum ≤ 8) (k : PR E d ne (pc + 3) lo (.int (if x < y then y else x) :: st) M Q) : PR E d ne pc lo (.int y :: .int x :: st) M Q := by
  intro p e R s m args below meth c H ls locs cells slots Z S
  obtain ⟨hC, hR, hl0, hlen, hH, hS, hb1, hb2, hb3⟩ := id S
  obtain ⟨hx, hb, hml, hown, hts, hKN, hfr, hlo, hnm, hbs⟩ := id hC
  exact va_mmax (x := x) (y := y) hx hb (hml.trans hl0.1.symm) hown (hts _ hw.1) (hts _ hw.2.1) (hts _ hw.2.2.1) (hts _ hw.2.2.2.1) (Nat.le_trans hw.2.2.2.2.1 hfr) (by rw [cv_sum]; have := hw.2.2.2.2.2; omega) (by omega) (by omega) hd (k _ _ _ _ _ _ _ _ _ _ _ _ _ _ _ S)
theorem px_min {idx : Nat} {x y : Int32} (hd : decode d.co pc = .ok (.invokestatic idx, 3)) (hw : xMa d idx Lib.Math.min.name Lib.Math.min.code 2) (hW : (st.map fun v => v.category).sum ≤ 8) (k : PR E d ne (pc + 3) lo (.int (if y < x then y else x) :: st) M Q) : PR E d ne pc lo (.int y :: .int x :: st) M Q := by
  intro p e R s m args below meth c H ls locs cells slots Z S
  obtain ⟨hC, hR, hl0, hlen, hH, hS, hb1, hb2, hb3⟩ := id S
  obtain ⟨hx, hb, hml, hown, hts, hKN, hfr, hlo, hnm, hbs⟩ := id hC
  exact va_mmin (x := x) (y := y) hx hb (hml.trans hl0.1.symm) hown (hts _ hw.1) (hts _ hw.2.1) (hts _ hw.2.2.1) (hts _ hw.2.2.2.1) (Nat.le_trans hw.2.2.2.2.1 hfr) (by rw [cv_sum]; have := hw.2.2.2.2.2; omega) (by omega) (by omega) hd (k _ _ _ _ _ _ _ _ _ _ _ _ _ _ _ S)
theorem px_abs {idx : Nat} {x : Int32} (hd : decode d.co pc = .ok (.invokestatic idx, 3)) (hw : xMa d idx Lib.Math.abs.name Lib.Math.abs.code 1) (hW : (st.map fun v => v.category).sum ≤ 8) (k : PR E d ne (pc + 3) lo (.int (if 0 ≤ x then x else 0 - x) :: st) M Q) : PR E d ne pc lo (.int x :: st) M Q := by
  intro p e R s m args below meth c H ls locs cells slots Z S
  obtain ⟨hC, hR, hl0, hlen, hH, hS, hb1, hb2, hb3⟩ := id S
  obtain ⟨hx, hb, hml, hown, hts, hKN, hfr, hlo, hnm, hbs⟩ := id hC
  exact va_mabs (x := x) hx hb (hml.trans hl0.1.symm) hown (hts _ hw.1) (hts _ hw.2.1) (hts _ hw.2.2.1) (hts _ hw.2.2.2.1) (Nat.le_trans hw.2.2.2.2.1 hfr) (by rw [cv_sum]; have := hw.2.2.2.2.2; omega) (by omega) (by omega) hd (k _ _ _ _ _ _ _ _ _ _ _ _ _ _ _ S)
/-- System.arraycopy -/
def xCp (d : xMD) (idx : Nat) : Prop := Cond.methodLink d.nm.cls idx arraycopyName ∈ xwl ∧ Cond.native arraycopyName ∈ xwl ∧ Cond.static arraycopyName ∈ xwl ∧ Cond.initialized "java/lang/System" ∈ xwl ∧ 1 ≤ d.fr ∧ 8 + (nativeFrameWords "java/lang/System" "arraycopy" 5 + 11) ≤ d.lo
theorem px_copy {idx a a0 kk n0 n1 t0 : Nat} {ty : FieldType} {sp dp n : Int32} (hd : decode d.co pc = .ok (.invokestatic idx, 3)) (hw : xCp d idx) (ho0 : xar a0 kk n0) (ho1 : xar a kk n1) (hk : 20 ≤ kk ∧ kk < 23) (ht : ∀ E : xE, (xtys E)[t0]? = some (E.cA kk, ty)) (hp : refKind ty = false) (hM : xNT ≤ xN M)
    (h1 : ¬ sp < 0) (h2 : ¬ dp < 0) (h3 : ¬ n < 0) (h4 : sp.toNatClampNeg + n.toNatClampNeg ≤ n0) (h5 : dp.toNatClampNeg + n.toNatClampNeg ≤ n1) (hfit : ∀ i, i < n.toNatClampNeg → fits ty (.int (M.1 a0 (sp.toNatClampNeg + i))) = true) (hW : (st.map fun v => v.category).sum ≤ 8)
    (k : PR E d ne (pc + 3) lo st (wF M a (va_cpy (M.1 a0) (M.1 a) sp.toNatClampNeg dp.toNatClampNeg n.toNatClampNeg)) Q) : PR E d ne pc lo (.int n :: .int dp :: .ref a :: .int sp :: .ref a0 :: st) M Q := by
  intro p e R s m args below meth c H ls locs cells slots Z S
  obtain ⟨hC, hR, hl0, hlen, hH, hS, hb1, hb2, hb3⟩ := id S
  obtain ⟨hx, hb, hml, hown, hts, hKN, hfr, hlo, hnm, hbs⟩ := id hC
  have e0 := ws_at E M ho0.1 (Nat.le_trans ho0.2.1 hM)
  have e1 := ws_at E M ho1.1 (Nat.le_trans ho1.2.1 hM)
  rw [ent_ia ho0.2.2 hk.1 hk.2] at e0
  rw [ent_ia ho1.2.2 hk.1 hk.2] at e1
  rw [List.map_cons, List.map_cons, List.map_cons, List.map_cons, List.map_cons, cv_ref ho0.1 (Nat.lt_of_le_of_lt ho0.2.1 (by decide)), cv_ref ho1.1 (Nat.lt_of_le_of_lt ho1.2.1 (by decide))]
  refine va_copyi (sp := sp) (dp := dp) (n := n) (ty := ty) hx hb (hml.trans hl0.1.symm) hown (hts _ hw.1) (hts _ hw.2.1) (hts _ hw.2.2.1) (hts _ hw.2.2.2.1) hKN.1 hH.2.1 (ws_D E M) hS (a0 - 1) (a - 1) t0 t0 e0 e1 (ht E) (ht E) hp h1 h2 h3 h4 h5 hfit (Nat.le_trans hw.2.2.2.2.1 hfr) (by rw [cv_sum]; have := hw.2.2.2.2.2; omega) hd (fun H1 locs1 hP1 hD1 hS1 => ?_)
  refine k p e R s m args below meth c H1 ls locs1 cells slots Z ⟨hC, hR, hl0, hlen, ?_, hS1, hb1, hb2, hb3⟩
  have hk1 : ∀ q : Nat, q < E.base → H1[q]? = H[q]? := by
    intro q hq
    have g1 := hS1.2.1
    have g2 := hS.2.1
    have hz : q < s.heap.size := Nat.lt_of_lt_of_le hq hbs
    rw [g1 q hz (Nat.not_le.mpr hq), g2 q hz (Nat.not_le.mpr hq)]
  refine ⟨fun hl => absurd hl (by show ¬ xN M < xNT; omega), ?_, hH.2.2.1.kept (hk1 _ hH.2.2.2.2.1), hH.2.2.2.1.kept hk1, hH.2.2.2.2.1, Nat.le_trans hbs hS1.1⟩
  rw [← ws_set (E := E) (M := M) (a := a) ho1.1 (M' := wF M a (va_cpy (M.1 a0) (M.1 a) sp.toNatClampNeg dp.toNatClampNeg n.toNatClampNeg)) rfl (fun b hb => ent_wF hb), ent_ia ho1.2.2 hk.1 hk.2]
  have : (fun j => (wF M a (va_cpy (M.1 a0) (M.1 a) sp.toNatClampNeg dp.toNatClampNeg n.toNatClampNeg)).1 a j) = va_cpy (M.1 a0) (M.1 a) sp.toNatClampNeg dp.toNatClampNeg n.toNatClampNeg := by
    funext j; rw [xI_wF, if_pos rfl]
  rw [this]
  exact hP1
end CALL3
end
section
/-! ===== births ===== -/
def xdv (k : Nat) : Value := if k = 0 then .int 0 else if k = 1 then .null else .long 0
theorem Hold.push {E : xE} {M : xMem} {U : State} {H H' : Heap} (h : Hold E M U H) (hlt : xN M < xNT) (he : va_at E.D vwCl (E.base + xN M, ent E (wN M) (xN M + 1)) H') (hz : H'.size = E.base + xN M + 1) (oq : ∀ q : Nat, q < E.base + xN M → H'[q]? = H[q]?) : Hold E (wN M) U H' := by
  have hsz := h.1 hlt
  refine ⟨fun _ => hz, ?_, h.2.2.1.kept (oq _ (by have := h.2.2.2.2.1; omega)), h.2.2.2.1.kept (fun q hq => oq q (by omega)), h.2.2.2.2.1, by omega⟩
  rw [← ws_push (E := E) (M := M) (M' := wN M) rfl (fun b hb => ent_wN hb)]
  refine (h.2.1.kept (fun k q hq => oq _ ?_)).app (fun k q hq => ?_)
  · have := (ws_of hq)
    rw [this.2]; show E.base + k < _; omega
  · have hk : k < 1 := (List.getElem?_eq_some_iff.mp hq).1
    have hk0 : k = 0 := by omega
    subst hk0
    cases hq
    exact he
theorem xS.push {E : xE} {s : State} {H H' : Heap} {locs : List Loc} {n : Nat} (hS : va_S (xA E) s.heap H locs) (hn : H.size = n) (hz : H'.size = n + 1) (oq : ∀ q : Nat, q < n → H'[q]? = H[q]?) : va_S (xA E) s.heap H' locs :=
  ⟨Nat.le_trans hS.1 (by omega), fun x h1 h2 => (oq x (by have := hS.1; omega)).trans (hS.2.1 x h1 h2), hS.2.2⟩
theorem wN_cell (M : xMem) (j : Nat) : (wN M).1 (xN M + 1) j = 0 ∧ (wN M).2.1 (xN M + 1) j = 0 ∧ (wN M).2.2.1 (xN M + 1) j = 0 := by
  refine ⟨?_, ?_, ?_⟩
  · show (if xN M + 1 = M.2.2.2 + 1 then (fun _ => (0 : Int32)) else M.1 (xN M + 1)) j = 0; rw [if_pos rfl]
  · show (if xN M + 1 = M.2.2.2 + 1 then (fun _ => (0 : Nat)) else M.2.1 (xN M + 1)) j = 0; rw [if_pos rfl]
  · show (if xN M + 1 = M.2.2.2 + 1 then (fun _ => (0 : Int64)) else M.2.2.1 (xN M + 1)) j = 0; rw [if_pos rfl]
/-- what the tables say of making an object of class c -/
def xNW (d : xMD) (idx c : Nat) : Prop := Cond.classLink d.nm.cls idx (xcl c).1 ∈ xwl ∧ Cond.instantiable (xcl c).1 (xcl c).2.2 ∈ xwl ∧ Cond.initialized (xcl c).1 ∈ xwl ∧ vwCl[c]? = some (xcl c) ∧ c < 20 ∧ (xcl c).2.2 = xnf c ∧ (∀ w ∈ u_ws (xcl c).1 (xcl c).2.1 (xcl c).2.2, w ∈ xwl) ∧ ∃ ty : Nat → FieldType, (∀ k, k < (xcl c).2.2 → parseFieldDescriptor ((xcl c).2.1 k).2.2.1 = some (ty k)) ∧ ∀ k, k < (xcl c).2.2 → defaultValue (ty k) = xdv (xft c k)
section NEW
variable {E : xE} {d : xMD} {ne pc : Nat} {lo : List (Option Value)} {st : List Value} {M : xMem} {Q : Option Value → xMem → Prop}
theorem px_new {idx c : Nat} (hd : decode d.co pc = .ok (.new idx, 3)) (hw : xNW d idx c) (hk : (xK (xN M + 1)).1 = c) (hn : xN M < ne) (hT : ne ≤ xNT) (k : PR E d ne (pc + 3) lo (.ref (xN M + 1) :: st) (wN M) Q) : PR E d ne pc lo st M Q := by
  intro p e R s m args below meth c' H ls locs cells slots Z S
  obtain ⟨hC, hR, hl0, hlen, hH, hS, hb1, hb2, hb3⟩ := id S
  obtain ⟨hx, hb, hml, hown, hts, hKN, hfr, hlo, hnm, hbs⟩ := id hC
  obtain ⟨w1, w2, w3, hcl, hc, hnf, hin, ty, hty, hdf⟩ := hw
  have hsz := hH.1 (by omega)
  have hsl : xSlots (xN M + 1) = (xcl c).2.2 := by
    unfold xSlots; simp only [hk, hcl]; rw [if_pos hc]
  have hs1 : xSZ (xN M + 1) = xSZ (xN M) + (xcl c).2.2 := by rw [← hsl]; rfl
  have hm1 := xSZ_mono (show xN M + 1 ≤ ne by omega)
  refine W.newcK hx hb hown (hts _ w1) (hts _ w2) (hts _ w3) rfl hd (by omega) (by omega) (hKN.1.1 c _ hcl).2.1 hsz fun H' kC hkC e1 z oq => ?_
  have hk1 := k p e R s m args below meth c' H' ls locs (cells + 1) (slots + (xcl c).2.2) Z ⟨hC, hR, hl0, hlen, hH.push (by omega) ?_ z oq, xS.push hS hsz z oq, by show xN M + 1 ≤ ne; omega, by show cells + 1 + (ne - (xN M + 1)) ≤ _; omega, by show slots + _ + (xSZ ne - xSZ (xN M + 1)) ≤ _; omega⟩
  · have e2 : cv E (.ref (xN M + 1)) = .ref (E.base + xN M) := cv_ref (by omega) (by have : xNT < 999 := (by decide); omega)
    rw [List.map_cons, e2] at hk1
    exact hk1
  · rw [ent_ob hk hc]
    refine ⟨_, hcl, ?_⟩
    refine t_OB.to (V := fun j => defaultValue (ty j)) (u_born ty hts hin (hKN.1.1 c _ hcl) hkC e1 hty) (fun j hj => ?_)
    have hj' : j < xnf c := by rw [← hnf]; exact hj
    show defaultValue (ty j) = vp_V _ j
    rw [hdf j hj]
    unfold vp_V
    rw [List.getD_eq_getElem?_getD, List.getElem?_map, List.getElem?_range hj']
    obtain ⟨q1, q2, q3⟩ := wN_cell M j
    simp only [Option.map_some, Option.getD_some, xfv, q1, q2, q3, xdv]
    rfl
theorem px_newa0 {N kk t0 : Nat} {n : Int32} {atype : ArrayType} (hd : decode d.co pc = .ok (.newarray atype, 2)) (hw : Cond.arrayClass (newarray.typeOf atype) ∈ xwl) (ht : ∀ E : xE, (xtys E)[t0]? = some (E.cA kk, newarray.typeOf atype)) (hra : ∀ U cA, va_RA U cA (newarray.typeOf atype) → U.vm.findClass ("[" ++ (newarray.typeOf atype).toString) = some cA) (hdv : defaultValue (newarray.typeOf atype) = .int 0) (h20 : 20 ≤ kk) (h23 : kk < 23) (hk : xK (xN M + 1) = (kk, N)) (h0 : ¬ n < 0) (hN : n.toNatClampNeg = N) (hby : N * componentBytes (newarray.typeOf atype) ≤ 536870912) (hn : xN M < ne) (hT : ne ≤ xNT)
    (k : PR E d ne (pc + 2) lo (.ref (xN M + 1) :: st) (wN M) Q) : PR E d ne pc lo (.int n :: st) M Q := by
  intro p e R s m args below meth c' H ls locs cells slots Z S
  obtain ⟨hC, hR, hl0, hlen, hH, hS, hb1, hb2, hb3⟩ := id S
  obtain ⟨hx, hb, hml, hown, hts, hKN, hfr, hlo, hnm, hbs⟩ := id hC
  have hsz := hH.1 (by omega)
  have hsl : xSlots (xN M + 1) = N := by
    unfold xSlots; simp only [hk]; rw [if_neg (by omega)]
  have hs1 : xSZ (xN M + 1) = xSZ (xN M) + N := by rw [← hsl]; rfl
  have hm1 := xSZ_mono (show xN M + 1 ≤ ne by omega)
  refine va_newaK (n := n) (N := N) hx hb (hts _ hw) rfl hd rfl h0 hN hby (by omega) (by omega) hsz fun H' cA e1 z oq hA hfc => ?_
  have hcA : cA = E.cA kk := by
    have := hra _ _ (hKN.1.2 t0 _ (ht E)).2
    exact Option.some.inj (hfc.symm.trans this)
  subst hcA
  have hk1 := k p e R s m args below meth c' H' ls locs (cells + 1) (slots + N) Z ⟨hC, hR, hl0, hlen, hH.push (by omega) ?_ z oq, xS.push hS hsz z oq, by show xN M + 1 ≤ ne; omega, by show cells + 1 + (ne - (xN M + 1)) ≤ _; omega, by show slots + _ + (xSZ ne - xSZ (xN M + 1)) ≤ _; omega⟩
  · have e2 : cv E (.ref (xN M + 1)) = .ref (E.base + xN M) := cv_ref (by omega) (by have : xNT < 999 := (by decide); omega)
    rw [List.map_cons, e2] at hk1
    exact hk1
  · rw [ent_ia hk h20 h23]
    show H'[E.base + xN M]? = some (vp_cell _ _)
    rw [e1, vp_cell_i]
    congr 2
    funext j
    rw [(wN_cell M j).1, hdv]
theorem px_newq {N kk t0 idx : Nat} {n : Int32} {C : String} (hd : decode d.co pc = .ok (.anewarray idx, 3)) (hw : Cond.classLink d.nm.cls idx C ∈ xwl) (hC4 : C ∈ [RX5, RX9, RX8, RX0]) (ht : ∀ E : xE, (xtys E)[t0]? = some (E.cA kk, .object C)) (h23 : 23 ≤ kk) (hk : xK (xN M + 1) = (kk, N)) (h0 : ¬ n < 0) (hN : n.toNatClampNeg = N) (hby : N * 4 ≤ 536870912) (hn : xN M < ne) (hT : ne ≤ xNT)
    (k : PR E d ne (pc + 3) lo (.ref (xN M + 1) :: st) (wN M) Q) : PR E d ne pc lo (.int n :: st) M Q := by
  intro p e R s m args below meth c' H ls locs cells slots Z S
  obtain ⟨hC, hR, hl0, hlen, hH, hS, hb1, hb2, hb3⟩ := id S
  obtain ⟨hx, hb, hml, hown, hts, hKN, hfr, hlo, hnm, hbs⟩ := id hC
  have hsz := hH.1 (by omega)
  have hsl : xSlots (xN M + 1) = N := by
    unfold xSlots; simp only [hk]; rw [if_neg (by omega)]
  have hs1 : xSZ (xN M + 1) = xSZ (xN M) + N := by rw [← hsl]; rfl
  have hm1 := xSZ_mono (show xN M + 1 ≤ ne by omega)
  subst hN
  refine W.anew hx hb hown (hts _ hw) (va_AO.use (hKN.2.2.1 C hC4)) rfl hd rfl h0 hby (by omega) (by omega) fun cA kA comp f1 f2 f3 f4 => ?_
  generalize hH1 : H.push ({ cls := cA, slots := Array.replicate n.toNatClampNeg .null, vm := .none } : Cell) = H1
  have z1 : H1.size = E.base + xN M + 1 := by rw [← hH1, Array.size_push, hsz]
  have e1 : H1[E.base + xN M]? = some (arrV cA n.toNatClampNeg (fun _ => .null)) := by rw [← hH1, ← hsz, Array.getElem?_push_size, ← arrV_new]
  have o1 : ∀ q : Nat, q < E.base + xN M → H1[q]? = H[q]? := fun q hq => by rw [← hH1, Array.getElem?_push, if_neg (by omega)]
  have hcA : cA = E.cA kk := by
    obtain ⟨_, _, _, _, _, g4⟩ := (hKN.1.2 t0 _ (ht E)).2
    exact Option.some.inj (f1.symm.trans g4)
  subst hcA
  have hk1 := k p e R s m args below meth c' H1 ls locs (cells + 1) (slots + n.toNatClampNeg) Z ⟨hC, hR, hl0, hlen, hH.push (by omega) ?_ z1 o1, xS.push hS hsz z1 o1, by show xN M + 1 ≤ ne; omega, by show cells + 1 + (ne - (xN M + 1)) ≤ _; omega, by show slots + _ + (xSZ ne - xSZ (xN M + 1)) ≤ _; omega⟩
  · have e2 : cv E (.ref (xN M + 1)) = .ref (E.base + xN M) := cv_ref (by omega) (by have : xNT < 999 := (by decide); omega)
    rw [List.map_cons, e2, ← hsz] at hk1
    exact hk1
  · rw [ent_ra hk h23]
    show H1[E.base + xN M]? = some (vp_cell _ _)
    rw [e1, vp_cell_q]
    congr 2
    funext j
    rw [(wN_cell M j).2.1]
    rfl
theorem px_obj {idx a : Nat} (hd : decode d.co pc = .ok (.invokespecial idx, 3)) (hw : Cond.methodLink d.nm.cls idx Lib.objectInit ∈ xwl ∧ Cond.instanceMethod Lib.objectInit ∈ xwl ∧ Cond.code Lib.objectInit ⟨#[0xb1]⟩ 1 none ∈ xwl) (hfr0 : 1 ≤ d.fr) (hlo0 : (st.map fun v => v.category).sum + 12 ≤ d.lo) (k : PR E d ne (pc + 3) lo st M Q) : PR E d ne pc lo (.ref a :: st) M Q := by
  intro p e R s m args below meth c' H ls locs cells slots Z S
  obtain ⟨hC, hR, hl0, hlen, hH, hS, hb1, hb2, hb3⟩ := id S
  obtain ⟨hx, hb, hml, hown, hts, hKN, hfr, hlo, hnm, hbs⟩ := id hC
  exact W.objInit hx hb hown (hts _ hw.1) (hts _ hw.2.1) (hts _ hw.2.2) rfl (by rw [hml]; exact hl0.1) rfl hd (Nat.le_trans hfr0 hfr) (by show 2 * 0 + _ + 12 ≤ _; rw [cv_sum]; omega) (k _ _ _ _ _ _ _ _ _ _ _ _ _ _ _ S)
end NEW
end
section
/-- what a callee brings -/
def xD (d' : xMD) (n : Nat) : Prop := Cond.initialized d'.nm.cls ∈ xwl ∧ Cond.code d'.nm d'.co d'.ml d'.rt ∈ xwl ∧ (d'.nm.cls ≠ "java/lang/invoke/MethodHandle" ∧ d'.nm.cls ≠ "java/lang/invoke/VarHandle") ∧ (parseMethodDescriptor d'.nm.desc).map (fun q => q.parameters.length) = some n
theorem xC0.mk {d d' : xMD} {n : Nat} (h : xD d' n) (h5 : d'.fr + 1 ≤ d.fr) (h6 : 8 + (d'.ml + 11) + d'.lo ≤ d.lo) : xC0 d d' n := ⟨h.1, h.2.1, h.2.2.1, h.2.2.2, h5, h6⟩
theorem hne_X0 : RX0 ≠ "java/lang/invoke/MethodHandle" ∧ RX0 ≠ "java/lang/invoke/VarHandle" := by decide +kernel
theorem pln_X0 : plainName RX0 = true := by decide +kernel
theorem hne_X1 : RX1 ≠ "java/lang/invoke/MethodHandle" ∧ RX1 ≠ "java/lang/invoke/VarHandle" := by decide +kernel
theorem pln_X1 : plainName RX1 = true := by decide +kernel
theorem hne_X2 : RX2 ≠ "java/lang/invoke/MethodHandle" ∧ RX2 ≠ "java/lang/invoke/VarHandle" := by decide +kernel
theorem pln_X2 : plainName RX2 = true := by decide +kernel
theorem hne_X3 : RX3 ≠ "java/lang/invoke/MethodHandle" ∧ RX3 ≠ "java/lang/invoke/VarHandle" := by decide +kernel
theorem pln_X3 : plainName RX3 = true := by decide +kernel
theorem hne_X4 : RX4 ≠ "java/lang/invoke/MethodHandle" ∧ RX4 ≠ "java/lang/invoke/VarHandle" := by decide +kernel
theorem pln_X4 : plainName RX4 = true := by decide +kernel
theorem hne_X5 : RX5 ≠ "java/lang/invoke/MethodHandle" ∧ RX5 ≠ "java/lang/invoke/VarHandle" := by decide +kernel
theorem pln_X5 : plainName RX5 = true := by decide +kernel
theorem hne_X6 : RX6 ≠ "java/lang/invoke/MethodHandle" ∧ RX6 ≠ "java/lang/invoke/VarHandle" := by decide +kernel
theorem pln_X6 : plainName RX6 = true := by decide +kernel
theorem hne_X7 : RX7 ≠ "java/lang/invoke/MethodHandle" ∧ RX7 ≠ "java/lang/invoke/VarHandle" := by decide +kernel
theorem pln_X7 : plainName RX7 = true := by decide +kernel
theorem hne_X8 : RX8 ≠ "java/lang/invoke/MethodHandle" ∧ RX8 ≠ "java/lang/invoke/VarHandle" := by decide +kernel
theorem pln_X8 : plainName RX8 = true := by decide +kernel
theorem hne_X9 : RX9 ≠ "java/lang/invoke/MethodHandle" ∧ RX9 ≠ "java/lang/invoke/VarHandle" := by decide +kernel
theorem pln_X9 : plainName RX9 = true := by decide +kernel
theorem hne_X10 : RX10 ≠ "java/lang/invoke/MethodHandle" ∧ RX10 ≠ "java/lang/invoke/VarHandle" := by decide +kernel
theorem pln_X10 : plainName RX10 = true := by decide +kernel
theorem hne_X11 : RX11 ≠ "java/lang/invoke/MethodHandle" ∧ RX11 ≠ "java/lang/invoke/VarHandle" := by decide +kernel
theorem pln_X11 : plainName RX11 = true := by decide +kernel
theorem pln_L : plainName RL = true := by decide +kernel
abbrev mX0_init : xMD := (yX0_init, cX0_init, 1, none, 1, 20)
theorem eX0_init : xD mX0_init 0 := ⟨xw95, xw177, hne_X0, by decide +kernel⟩
abbrev mX0_settle : xMD := (yX0_settle, cX0_settle, 3, none, 0, 0)
theorem eX0_settle : xD mX0_settle 1 := ⟨xw95, xw623, hne_X0, by decide +kernel⟩
abbrev mX0_isOf : xMD := (yX0_isOf, cX0_isOf, 2, (some .boolean), 0, 0)
theorem eX0_isOf : xD mX0_isOf 1 := ⟨xw95, xw729, hne_X0, by decide +kernel⟩
abbrev mX0_mayTurn : xMD := (yX0_mayTurn, cX0_mayTurn, 1, (some .boolean), 1, 21)
theorem eX0_mayTurn : xD mX0_mayTurn 0 := ⟨xw95, xw797, hne_X0, by decide +kernel⟩
abbrev mX0_needsAcross : xMD := (yX0_needsAcross, cX0_needsAcross, 2, (some .int), 0, 0)
theorem eX0_needsAcross : xD mX0_needsAcross 1 := ⟨xw95, xw689, hne_X0, by decide +kernel⟩
abbrev mX0_needsDown : xMD := (yX0_needsDown, cX0_needsDown, 2, (some .int), 0, 0)
theorem eX0_needsDown : xD mX0_needsDown 1 := ⟨xw95, xw693, hne_X0, by decide +kernel⟩
abbrev mX0_needsPlaces : xMD := (yX0_needsPlaces, cX0_needsPlaces, 1, (some .int), 1, 21)
theorem eX0_needsPlaces : xD mX0_needsPlaces 0 := ⟨xw95, xw740, hne_X0, by decide +kernel⟩
abbrev mX0_edgePlaces : xMD := (yX0_edgePlaces, cX0_edgePlaces, 1, (some .int), 2, 41)
theorem eX0_edgePlaces : xD mX0_edgePlaces 0 := ⟨xw95, xw736, hne_X0, by decide +kernel⟩
abbrev mX0_emptyPoints : xMD := (yX0_emptyPoints, cX0_emptyPoints, 1, (some .int), 0, 0)
theorem eX0_emptyPoints : xD mX0_emptyPoints 0 := ⟨xw95, xw744, hne_X0, by decide +kernel⟩
abbrev mX0_part : xMD := (yX0_part, cX0_part, 2, (some .int), 1, 21)
theorem eX0_part : xD mX0_part 1 := ⟨xw95, xw685, hne_X0, by decide +kernel⟩
abbrev mX1_init : xMD := (yX1_init, cX1_init, 2, none, 1, 20)
theorem eX1_init : xD mX1_init 0 := ⟨xw92, xw131, hne_X1, by decide +kernel⟩
abbrev mX1_spotAt : xMD := (yX1_spotAt, cX1_spotAt, 3, (some .int), 0, 0)
theorem eX1_spotAt : xD mX1_spotAt 3 := ⟨xw92, xw818, hne_X1, by decide +kernel⟩
abbrev mX1_spotOnPage : xMD := (yX1_spotOnPage, cX1_spotOnPage, 2, (some .int), 0, 0)
theorem eX1_spotOnPage : xD mX1_spotOnPage 2 := ⟨xw92, xw821, hne_X1, by decide +kernel⟩
abbrev mX1_liftAll : xMD := (yX1_liftAll, cX1_liftAll, 2, none, 0, 0)
theorem eX1_liftAll : xD mX1_liftAll 0 := ⟨xw92, xw639, hne_X1, by decide +kernel⟩
abbrev mX1_isSet : xMD := (yX1_isSet, cX1_isSet, 2, (some .boolean), 0, 0)
theorem eX1_isSet : xD mX1_isSet 1 := ⟨xw92, xw701, hne_X1, by decide +kernel⟩
abbrev mX1_pageOf : xMD := (yX1_pageOf, cX1_pageOf, 2, (some .int), 0, 0)
theorem eX1_pageOf : xD mX1_pageOf 1 := ⟨xw92, xw709, hne_X1, by decide +kernel⟩
abbrev mX1_xOf : xMD := (yX1_xOf, cX1_xOf, 2, (some .int), 0, 0)
theorem eX1_xOf : xD mX1_xOf 1 := ⟨xw92, xw713, hne_X1, by decide +kernel⟩
abbrev mX1_yOf : xMD := (yX1_yOf, cX1_yOf, 2, (some .int), 0, 0)
theorem eX1_yOf : xD mX1_yOf 1 := ⟨xw92, xw717, hne_X1, by decide +kernel⟩
abbrev mX1_isTurned : xMD := (yX1_isTurned, cX1_isTurned, 2, (some .boolean), 0, 0)
theorem eX1_isTurned : xD mX1_isTurned 1 := ⟨xw92, xw721, hne_X1, by decide +kernel⟩
abbrev mX1_part : xMD := (yX1_part, cX1_part, 3, (some .int), 1, 21)
theorem eX1_part : xD mX1_part 2 := ⟨xw92, xw705, hne_X1, by decide +kernel⟩
abbrev mX1_pages : xMD := (yX1_pages, cX1_pages, 3, (some .int), 1, 21)
theorem eX1_pages : xD mX1_pages 0 := ⟨xw92, xw756, hne_X1, by decide +kernel⟩
abbrev mX1_framesSet : xMD := (yX1_framesSet, cX1_framesSet, 3, (some .int), 1, 21)
theorem eX1_framesSet : xD mX1_framesSet 0 := ⟨xw92, xw957, hne_X1, by decide +kernel⟩
abbrev mX1_framesTurned : xMD := (yX1_framesTurned, cX1_framesTurned, 3, (some .int), 1, 21)
theorem eX1_framesTurned : xD mX1_framesTurned 0 := ⟨xw92, xw988, hne_X1, by decide +kernel⟩
abbrev mX2_init : xMD := (yX2_init, cX2_init, 1, none, 2, 40)
theorem eX2_init : xD mX2_init 0 := ⟨xw97, xw319, hne_X2, by decide +kernel⟩
abbrev mX2_spotFor : xMD := (yX2_spotFor, cX2_spotFor, 7, (some .int), 4, 100)
theorem eX2_spotFor : xD mX2_spotFor 3 := ⟨xw97, xw752, hne_X2, by decide +kernel⟩
abbrev mX2_setAllAnew : xMD := (yX2_setAllAnew, cX2_setAllAnew, 5, none, 5, 126)
theorem eX2_setAllAnew : xD mX2_setAllAnew 3 := ⟨xw97, xw845, hne_X2, by decide +kernel⟩
abbrev mX2_fillQueue : xMD := (yX2_fillQueue, cX2_fillQueue, 6, none, 3, 62)
theorem eX2_fillQueue : xD mX2_fillQueue 2 := ⟨xw97, xw850, hne_X2, by decide +kernel⟩
abbrev mX2_weightOf : xMD := (yX2_weightOf, cX2_weightOf, 2, (some .int), 2, 41)
theorem eX2_weightOf : xD mX2_weightOf 2 := ⟨xw97, xw853, hne_X2, by decide +kernel⟩
abbrev mX3_init : xMD := (yX3_init, cX3_init, 1, none, 3, 61)
theorem eX3_init : xD mX3_init 0 := ⟨xw93, xw164, hne_X3, by decide +kernel⟩
abbrev mX3_exchangeDraft : xMD := (yX3_exchangeDraft, cX3_exchangeDraft, 3, (some (.object "FrameSheets$Sheet")), 0, 0)
theorem eX3_exchangeDraft : xD mX3_exchangeDraft 1 := ⟨xw93, xw631, hne_X3, by decide +kernel⟩
abbrev mX3_faultOf : xMD := (yX3_faultOf, cX3_faultOf, 3, (some .int), 7, 150)
theorem eX3_faultOf : xD mX3_faultOf 1 := ⟨xw93, xw511, hne_X3, by decide +kernel⟩
abbrev mX3_readPage : xMD := (yX3_readPage, cX3_readPage, 1, (some .boolean), 5, 107)
theorem eX3_readPage : xD mX3_readPage 0 := ⟨xw93, xw526, hne_X3, by decide +kernel⟩
abbrev mX3_readStatement : xMD := (yX3_readStatement, cX3_readStatement, 3, (some .boolean), 6, 128)
theorem eX3_readStatement : xD mX3_readStatement 0 := ⟨xw93, xw591, hne_X3, by decide +kernel⟩
abbrev mX3_readBleed : xMD := (yX3_readBleed, cX3_readBleed, 1, (some .boolean), 3, 65)
theorem eX3_readBleed : xD mX3_readBleed 0 := ⟨xw93, xw596, hne_X3, by decide +kernel⟩
abbrev mX3_readSides : xMD := (yX3_readSides, cX3_readSides, 2, (some .boolean), 3, 65)
theorem eX3_readSides : xD mX3_readSides 1 := ⟨xw93, xw611, hne_X3, by decide +kernel⟩
abbrev mX3_readEmpty : xMD := (yX3_readEmpty, cX3_readEmpty, 2, (some .boolean), 3, 65)
theorem eX3_readEmpty : xD mX3_readEmpty 1 := ⟨xw93, xw615, hne_X3, by decide +kernel⟩
abbrev mX3_takeNumber : xMD := (yX3_takeNumber, cX3_takeNumber, 4, (some .int), 2, 42)
theorem eX3_takeNumber : xD mX3_takeNumber 2 := ⟨xw93, xw583, hne_X3, by decide +kernel⟩
abbrev mX3_takeStop : xMD := (yX3_takeStop, cX3_takeStop, 1, (some .boolean), 2, 42)
theorem eX3_takeStop : xD mX3_takeStop 0 := ⟨xw93, xw587, hne_X3, by decide +kernel⟩
abbrev mX3_kindAtHand : xMD := (yX3_kindAtHand, cX3_kindAtHand, 2, (some .int), 5, 107)
theorem eX3_kindAtHand : xD mX3_kindAtHand 0 := ⟨xw93, xw600, hne_X3, by decide +kernel⟩
abbrev mX3_isAtWord : xMD := (yX3_isAtWord, cX3_isAtWord, 3, (some .boolean), 4, 85)
theorem eX3_isAtWord : xD mX3_isAtWord 1 := ⟨xw93, xw531, hne_X3, by decide +kernel⟩
abbrev mX3_advance : xMD := (yX3_advance, cX3_advance, 2, none, 1, 21)
theorem eX3_advance : xD mX3_advance 0 := ⟨xw93, xw516, hne_X3, by decide +kernel⟩
abbrev mX3_isLetter : xMD := (yX3_isLetter, cX3_isLetter, 1, (some .boolean), 0, 0)
theorem eX3_isLetter : xD mX3_isLetter 1 := ⟨xw93, xw519, hne_X3, by decide +kernel⟩
abbrev mX3_isFigure : xMD := (yX3_isFigure, cX3_isFigure, 1, (some .boolean), 0, 0)
theorem eX3_isFigure : xD mX3_isFigure 1 := ⟨xw93, xw522, hne_X3, by decide +kernel⟩
abbrev mX4_init : xMD := (yX4_init, cX4_init, 1, none, 1, 20)
theorem eX4_init : xD mX4_init 0 := ⟨xw98, xw325, hne_X4, by decide +kernel⟩
abbrev mX4_look : xMD := (yX4_look, cX4_look, 5, none, 3, 76)
theorem eX4_look : xD mX4_look 3 := ⟨xw98, xw762, hne_X4, by decide +kernel⟩
abbrev mX4_cover : xMD := (yX4_cover, cX4_cover, 9, none, 1, 21)
theorem eX4_cover : xD mX4_cover 3 := ⟨xw98, xw769, hne_X4, by decide +kernel⟩
abbrev mX4_span : xMD := (yX4_span, cX4_span, 2, (some .int), 0, 0)
theorem eX4_span : xD mX4_span 2 := ⟨xw98, xw775, hne_X4, by decide +kernel⟩
abbrev mX4_findFree : xMD := (yX4_findFree, cX4_findFree, 7, none, 2, 50)
theorem eX4_findFree : xD mX4_findFree 0 := ⟨xw98, xw781, hne_X4, by decide +kernel⟩
abbrev mX4_addRuns : xMD := (yX4_addRuns, cX4_addRuns, 9, none, 1, 22)
theorem eX4_addRuns : xD mX4_addRuns 5 := ⟨xw98, xw785, hne_X4, by decide +kernel⟩
abbrev mX4_insert : xMD := (yX4_insert, cX4_insert, 3, none, 0, 0)
theorem eX4_insert : xD mX4_insert 1 := ⟨xw98, xw789, hne_X4, by decide +kernel⟩
abbrev mX4_part : xMD := (yX4_part, cX4_part, 3, (some .int), 1, 20)
theorem eX4_part : xD mX4_part 2 := ⟨xw98, xw895, hne_X4, by decide +kernel⟩
abbrev mX4_yOf : xMD := (yX4_yOf, cX4_yOf, 1, (some .int), 0, 0)
theorem eX4_yOf : xD mX4_yOf 1 := ⟨xw98, xw811, hne_X4, by decide +kernel⟩
abbrev mX4_xOf : xMD := (yX4_xOf, cX4_xOf, 1, (some .int), 0, 0)
theorem eX4_xOf : xD mX4_xOf 1 := ⟨xw98, xw815, hne_X4, by decide +kernel⟩
abbrev mX4_acrossOf : xMD := (yX4_acrossOf, cX4_acrossOf, 1, (some .int), 0, 0)
theorem eX4_acrossOf : xD mX4_acrossOf 1 := ⟨xw98, xw801, hne_X4, by decide +kernel⟩
abbrev mX4_downOf : xMD := (yX4_downOf, cX4_downOf, 1, (some .int), 0, 0)
theorem eX4_downOf : xD mX4_downOf 1 := ⟨xw98, xw804, hne_X4, by decide +kernel⟩
abbrev mX4_greatest : xMD := (yX4_greatest, cX4_greatest, 3, (some .int), 1, 21)
theorem eX4_greatest : xD mX4_greatest 0 := ⟨xw98, xw941, hne_X4, by decide +kernel⟩
abbrev mX4_bestSpot : xMD := (yX4_bestSpot, cX4_bestSpot, 12, (some .int), 2, 49)
theorem eX4_bestSpot : xD mX4_bestSpot 2 := ⟨xw98, xw793, hne_X4, by decide +kernel⟩
abbrev mX4_numbersOf : xMD := (yX4_numbersOf, cX4_numbersOf, 9, (some .int), 1, 21)
theorem eX4_numbersOf : xD mX4_numbersOf 4 := ⟨xw98, xw807, hne_X4, by decide +kernel⟩
abbrev mX5_init : xMD := (yX5_init, cX5_init, 1, none, 1, 20)
theorem eX5_init : xD mX5_init 0 := ⟨xw99, xw359, hne_X5, by decide +kernel⟩
abbrev mX5_isMissing : xMD := (yX5_isMissing, cX5_isMissing, 1, (some .boolean), 0, 0)
theorem eX5_isMissing : xD mX5_isMissing 0 := ⟨xw99, xw454, hne_X5, by decide +kernel⟩
abbrev mX5_renew : xMD := (yX5_renew, cX5_renew, 3, none, 1, 21)
theorem eX5_renew : xD mX5_renew 1 := ⟨xw99, xw440, hne_X5, by decide +kernel⟩
abbrev mX5_holds : xMD := (yX5_holds, cX5_holds, 3, (some .boolean), 0, 0)
theorem eX5_holds : xD mX5_holds 2 := ⟨xw99, xw474, hne_X5, by decide +kernel⟩
abbrev mX5_sum : xMD := (yX5_sum, cX5_sum, 4, (some .long), 0, 0)
theorem eX5_sum : xD mX5_sum 0 := ⟨xw99, xw485, hne_X5, by decide +kernel⟩
abbrev mX6_init : xMD := (yX6_init, cX6_init, 1, none, 1, 20)
theorem eX6_init : xD mX6_init 0 := ⟨xw96, xw304, hne_X6, by decide +kernel⟩
abbrev mX6_writeSheet : xMD := (yX6_writeSheet, cX6_writeSheet, 3, none, 6, 128)
theorem eX6_writeSheet : xD mX6_writeSheet 1 := ⟨xw96, xw651, hne_X6, by decide +kernel⟩
abbrev mX6_writeFrame : xMD := (yX6_writeFrame, cX6_writeFrame, 2, none, 5, 107)
theorem eX6_writeFrame : xD mX6_writeFrame 1 := ⟨xw96, xw671, hne_X6, by decide +kernel⟩
abbrev mX6_addWord : xMD := (yX6_addWord, cX6_addWord, 3, none, 4, 85)
theorem eX6_addWord : xD mX6_addWord 1 := ⟨xw96, xw656, hne_X6, by decide +kernel⟩
abbrev mX6_addNumber : xMD := (yX6_addNumber, cX6_addNumber, 2, none, 1, 21)
theorem eX6_addNumber : xD mX6_addNumber 1 := ⟨xw96, xw666, hne_X6, by decide +kernel⟩
abbrev mX6_addSign : xMD := (yX6_addSign, cX6_addSign, 2, none, 0, 0)
theorem eX6_addSign : xD mX6_addSign 1 := ⟨xw96, xw662, hne_X6, by decide +kernel⟩
abbrev mX7_init : xMD := (yX7_init, cX7_init, 2, none, 2, 40)
theorem eX7_init : xD mX7_init 0 := ⟨xw94, xw170, hne_X7, by decide +kernel⟩
abbrev mX7_settle : xMD := (yX7_settle, cX7_settle, 2, none, 1, 22)
theorem eX7_settle : xD mX7_settle 0 := ⟨xw94, xw619, hne_X7, by decide +kernel⟩
abbrev mX7_placesTaken : xMD := (yX7_placesTaken, cX7_placesTaken, 5, (some .int), 2, 41)
theorem eX7_placesTaken : xD mX7_placesTaken 2 := ⟨xw94, xw929, hne_X7, by decide +kernel⟩
abbrev mX8_init : xMD := (yX8_init, cX8_init, 1, none, 2, 41)
theorem eX8_init : xD mX8_init 0 := ⟨xw91, xw125, hne_X8, by decide +kernel⟩
abbrev mX8_isFull : xMD := (yX8_isFull, cX8_isFull, 1, (some .boolean), 0, 0)
theorem eX8_isFull : xD mX8_isFull 0 := ⟨xw91, xw825, hne_X8, by decide +kernel⟩
abbrev mX8_start : xMD := (yX8_start, cX8_start, 1, none, 1, 21)
theorem eX8_start : xD mX8_start 0 := ⟨xw91, xw635, hne_X8, by decide +kernel⟩
abbrev mX8_beginDeed : xMD := (yX8_beginDeed, cX8_beginDeed, 2, none, 1, 26)
theorem eX8_beginDeed : xD mX8_beginDeed 0 := ⟨xw91, xw829, hne_X8, by decide +kernel⟩
abbrev mX8_goBackTo : xMD := (yX8_goBackTo, cX8_goBackTo, 3, none, 1, 26)
theorem eX8_goBackTo : xD mX8_goBackTo 1 := ⟨xw91, xw870, hne_X8, by decide +kernel⟩
abbrev mX8_takeOver : xMD := (yX8_takeOver, cX8_takeOver, 2, none, 1, 26)
theorem eX8_takeOver : xD mX8_takeOver 1 := ⟨xw91, xw878, hne_X8, by decide +kernel⟩
abbrev mX9_init : xMD := (yX9_init, cX9_init, 1, none, 1, 20)
theorem eX9_init : xD mX9_init 0 := ⟨xw100, xw373, hne_X9, by decide +kernel⟩
abbrev mX9_isMissing : xMD := (yX9_isMissing, cX9_isMissing, 1, (some .boolean), 0, 0)
theorem eX9_isMissing : xD mX9_isMissing 0 := ⟨xw100, xw503, hne_X9, by decide +kernel⟩
abbrev mX9_renew : xMD := (yX9_renew, cX9_renew, 3, none, 1, 21)
theorem eX9_renew : xD mX9_renew 1 := ⟨xw100, xw493, hne_X9, by decide +kernel⟩
abbrev mX9_takeOver : xMD := (yX9_takeOver, cX9_takeOver, 3, none, 1, 26)
theorem eX9_takeOver : xD mX9_takeOver 2 := ⟨xw100, xw676, hne_X9, by decide +kernel⟩
abbrev mX10_init : xMD := (yX10_init, cX10_init, 2, none, 4, 81)
theorem eX10_init : xD mX10_init 0 := ⟨xw90, xw112, hne_X10, by decide +kernel⟩
abbrev mX10_row : xMD := (yX10_row, cX10_row, 3, (some .int), 2, 43)
theorem eX10_row : xD mX10_row 2 := ⟨xw90, xw429, hne_X10, by decide +kernel⟩
abbrev mX10_lay : xMD := (yX10_lay, cX10_lay, 6, (some .int), 1, 21)
theorem eX10_lay : xD mX10_lay 3 := ⟨xw90, xw450, hne_X10, by decide +kernel⟩
abbrev mX10_at : xMD := (yX10_at, cX10_at, 4, (some .int), 1, 21)
theorem eX10_at : xD mX10_at 2 := ⟨xw90, xw462, hne_X10, by decide +kernel⟩
abbrev mX10_tear : xMD := (yX10_tear, cX10_tear, 2, (some .int), 1, 21)
theorem eX10_tear : xD mX10_tear 1 := ⟨xw90, xw466, hne_X10, by decide +kernel⟩
abbrev mX10_copy : xMD := (yX10_copy, cX10_copy, 8, (some .int), 1, 26)
theorem eX10_copy : xD mX10_copy 5 := ⟨xw90, xw470, hne_X10, by decide +kernel⟩
abbrev mX10_mean : xMD := (yX10_mean, cX10_mean, 3, (some .int), 1, 23)
theorem eX10_mean : xD mX10_mean 1 := ⟨xw90, xw481, hne_X10, by decide +kernel⟩
abbrev mX10_text : xMD := (yX10_text, cX10_text, 3, (some .int), 2, 43)
theorem eX10_text : xD mX10_text 2 := ⟨xw90, xw489, hne_X10, by decide +kernel⟩
abbrev mX10_put : xMD := (yX10_put, cX10_put, 6, (some .int), 1, 21)
theorem eX10_put : xD mX10_put 3 := ⟨xw90, xw499, hne_X10, by decide +kernel⟩
abbrev mX10_fault : xMD := (yX10_fault, cX10_fault, 2, (some .int), 8, 172)
theorem eX10_fault : xD mX10_fault 1 := ⟨xw90, xw507, hne_X10, by decide +kernel⟩
abbrev mX10_sheet : xMD := (yX10_sheet, cX10_sheet, 3, (some .int), 8, 172)
theorem eX10_sheet : xD mX10_sheet 1 := ⟨xw90, xw627, hne_X10, by decide +kernel⟩
abbrev mX10_write : xMD := (yX10_write, cX10_write, 2, (some .int), 7, 150)
theorem eX10_write : xD mX10_write 1 := ⟨xw90, xw643, hne_X10, by decide +kernel⟩
abbrev mX10_frame : xMD := (yX10_frame, cX10_frame, 3, (some .int), 2, 42)
theorem eX10_frame : xD mX10_frame 2 := ⟨xw90, xw681, hne_X10, by decide +kernel⟩
abbrev mX10_place : xMD := (yX10_place, cX10_place, 3, (some .int), 2, 43)
theorem eX10_place : xD mX10_place 2 := ⟨xw90, xw697, hne_X10, by decide +kernel⟩
abbrev mX10_mark : xMD := (yX10_mark, cX10_mark, 4, (some .int), 3, 61)
theorem eX10_mark : xD mX10_mark 2 := ⟨xw90, xw725, hne_X10, by decide +kernel⟩
abbrev mX10_set : xMD := (yX10_set, cX10_set, 3, (some .int), 5, 126)
theorem eX10_set : xD mX10_set 1 := ⟨xw90, xw748, hne_X10, by decide +kernel⟩
abbrev mX10_lift : xMD := (yX10_lift, cX10_lift, 2, (some .int), 2, 47)
theorem eX10_lift : xD mX10_lift 1 := ⟨xw90, xw836, hne_X10, by decide +kernel⟩
abbrev mX10_all : xMD := (yX10_all, cX10_all, 2, (some .int), 6, 150)
theorem eX10_all : xD mX10_all 1 := ⟨xw90, xw841, hne_X10, by decide +kernel⟩
abbrev mX10_rule : xMD := (yX10_rule, cX10_rule, 3, (some .int), 2, 47)
theorem eX10_rule : xD mX10_rule 1 := ⟨xw90, xw862, hne_X10, by decide +kernel⟩
abbrev mX10_undo : xMD := (yX10_undo, cX10_undo, 3, (some .int), 2, 48)
theorem eX10_undo : xD mX10_undo 1 := ⟨xw90, xw866, hne_X10, by decide +kernel⟩
abbrev mX10_keep : xMD := (yX10_keep, cX10_keep, 2, (some .int), 2, 47)
theorem eX10_keep : xD mX10_keep 1 := ⟨xw90, xw874, hne_X10, by decide +kernel⟩
abbrev mX10_on : xMD := (yX10_on, cX10_on, 2, (some .int), 2, 47)
theorem eX10_on : xD mX10_on 1 := ⟨xw90, xw882, hne_X10, by decide +kernel⟩
abbrev mX10_free : xMD := (yX10_free, cX10_free, 5, (some .int), 4, 100)
theorem eX10_free : xD mX10_free 3 := ⟨xw90, xw886, hne_X10, by decide +kernel⟩
abbrev mX10_seen : xMD := (yX10_seen, cX10_seen, 5, (some .int), 3, 72)
theorem eX10_seen : xD mX10_seen 3 := ⟨xw90, xw899, hne_X10, by decide +kernel⟩
abbrev mX10_point : xMD := (yX10_point, cX10_point, 11, (some .int), 1, 21)
theorem eX10_point : xD mX10_point 3 := ⟨xw90, xw921, hne_X10, by decide +kernel⟩
abbrev mX10_used : xMD := (yX10_used, cX10_used, 4, (some .int), 3, 65)
theorem eX10_used : xD mX10_used 1 := ⟨xw90, xw925, hne_X10, by decide +kernel⟩
abbrev mX10_takes : xMD := (yX10_takes, cX10_takes, 5, (some .int), 4, 100)
theorem eX10_takes : xD mX10_takes 1 := ⟨xw90, xw936, hne_X10, by decide +kernel⟩
abbrev mX10_would : xMD := (yX10_would, cX10_would, 5, (some .int), 6, 150)
theorem eX10_would : xD mX10_would 2 := ⟨xw90, xw945, hne_X10, by decide +kernel⟩
abbrev mX10_best : xMD := (yX10_best, cX10_best, 7, (some .int), 6, 150)
theorem eX10_best : xD mX10_best 0 := ⟨xw90, xw949, hne_X10, by decide +kernel⟩
abbrev mX10_lots : xMD := (yX10_lots, cX10_lots, 6, (some .int), 6, 150)
theorem eX10_lots : xD mX10_lots 2 := ⟨xw90, xw961, hne_X10, by decide +kernel⟩
abbrev mX10_asked : xMD := (yX10_asked, cX10_asked, 1, (some .int), 0, 0)
theorem eX10_asked : xD mX10_asked 0 := ⟨xw90, xw972, hne_X10, by decide +kernel⟩
abbrev mX10_count : xMD := (yX10_count, cX10_count, 3, (some .int), 5, 123)
theorem eX10_count : xD mX10_count 1 := ⟨xw90, xw976, hne_X10, by decide +kernel⟩
abbrev mX10_finding : xMD := (yX10_finding, cX10_finding, 1, (some .int), 0, 0)
theorem eX10_finding : xD mX10_finding 0 := ⟨xw90, xw1004, hne_X10, by decide +kernel⟩
abbrev mX10_findings : xMD := (yX10_findings, cX10_findings, 2, (some .int), 0, 0)
theorem eX10_findings : xD mX10_findings 1 := ⟨xw90, xw1008, hne_X10, by decide +kernel⟩
abbrev mX10_digest : xMD := (yX10_digest, cX10_digest, 5, (some .long), 6, 145)
theorem eX10_digest : xD mX10_digest 0 := ⟨xw90, xw1012, hne_X10, by decide +kernel⟩
abbrev mX10_isBelow : xMD := (yX10_isBelow, cX10_isBelow, 2, (some .boolean), 0, 0)
theorem eX10_isBelow : xD mX10_isBelow 2 := ⟨xw90, xw432, hne_X10, by decide +kernel⟩
abbrev mX10_hasNoSheet : xMD := (yX10_hasNoSheet, cX10_hasNoSheet, 1, (some .boolean), 0, 0)
theorem eX10_hasNoSheet : xD mX10_hasNoSheet 0 := ⟨xw90, xw647, hne_X10, by decide +kernel⟩
abbrev mX10_isPage : xMD := (yX10_isPage, cX10_isPage, 2, (some .boolean), 2, 43)
theorem eX10_isPage : xD mX10_isPage 1 := ⟨xw90, xw890, hne_X10, by decide +kernel⟩
abbrev mX10_refuse : xMD := (yX10_refuse, cX10_refuse, 2, (some .int), 0, 0)
theorem eX10_refuse : xD mX10_refuse 1 := ⟨xw90, xw436, hne_X10, by decide +kernel⟩
abbrev mX10_tell : xMD := (yX10_tell, cX10_tell, 2, (some .int), 0, 0)
theorem eX10_tell : xD mX10_tell 1 := ⟨xw90, xw458, hne_X10, by decide +kernel⟩
abbrev mX10_takesPlace : xMD := (yX10_takesPlace, cX10_takesPlace, 8, (some .boolean), 1, 21)
theorem eX10_takesPlace : xD mX10_takesPlace 4 := ⟨xw90, xw903, hne_X10, by decide +kernel⟩
abbrev mX10_pointSeen : xMD := (yX10_pointSeen, cX10_pointSeen, 11, (some .int), 2, 42)
theorem eX10_pointSeen : xD mX10_pointSeen 3 := ⟨xw90, xw912, hne_X10, by decide +kernel⟩
abbrev mX10_nearest : xMD := (yX10_nearest, cX10_nearest, 2, (some .int), 1, 21)
theorem eX10_nearest : xD mX10_nearest 2 := ⟨xw90, xw915, hne_X10, by decide +kernel⟩
abbrev mX10_shortcoming : xMD := (yX10_shortcoming, cX10_shortcoming, 5, (some .int), 3, 65)
theorem eX10_shortcoming : xD mX10_shortcoming 1 := ⟨xw90, xw953, hne_X10, by decide +kernel⟩
abbrev mX10_doLot : xMD := (yX10_doLot, cX10_doLot, 5, none, 5, 126)
theorem eX10_doLot : xD mX10_doLot 1 := ⟨xw90, xw968, hne_X10, by decide +kernel⟩
abbrev mX10_placesTakenOnAllPages : xMD := (yX10_placesTakenOnAllPages, cX10_placesTakenOnAllPages, 4, (some .int), 3, 65)
theorem eX10_placesTakenOnAllPages : xD mX10_placesTakenOnAllPages 0 := ⟨xw90, xw980, hne_X10, by decide +kernel⟩
abbrev mX10_freeOnAllPages : xMD := (yX10_freeOnAllPages, cX10_freeOnAllPages, 4, (some .int), 4, 100)
theorem eX10_freeOnAllPages : xD mX10_freeOnAllPages 0 := ⟨xw90, xw984, hne_X10, by decide +kernel⟩
abbrev mX10_rowsThere : xMD := (yX10_rowsThere, cX10_rowsThere, 3, (some .int), 1, 20)
theorem eX10_rowsThere : xD mX10_rowsThere 0 := ⟨xw90, xw992, hne_X10, by decide +kernel⟩
abbrev mX10_textsThere : xMD := (yX10_textsThere, cX10_textsThere, 3, (some .int), 1, 20)
theorem eX10_textsThere : xD mX10_textsThere 0 := ⟨xw90, xw996, hne_X10, by decide +kernel⟩
abbrev mX10_sheetsKept : xMD := (yX10_sheetsKept, cX10_sheetsKept, 3, (some .int), 0, 0)
theorem eX10_sheetsKept : xD mX10_sheetsKept 0 := ⟨xw90, xw1000, hne_X10, by decide +kernel⟩
abbrev mX10_withFrame : xMD := (yX10_withFrame, cX10_withFrame, 7, (some .long), 2, 43)
theorem eX10_withFrame : xD mX10_withFrame 2 := ⟨xw90, xw1019, hne_X10, by decide +kernel⟩
abbrev mX10_wordOf : xMD := (yX10_wordOf, cX10_wordOf, 1, (some (.object "java/lang/String")), 0, 0)
theorem eX10_wordOf : xD mX10_wordOf 1 := ⟨xw90, xw603, hne_X10, by decide +kernel⟩
abbrev mX11_init : xMD := (yX11_init, cX11_init, 2, none, 1, 20)
theorem eX11_init : xD mX11_init 0 := ⟨xw101, xw1024, hne_X11, by decide +kernel⟩
abbrev mX11_in : xMD := (yX11_in, cX11_in, 3, (some .boolean), 0, 0)
theorem eX11_in : xD mX11_in 3 := ⟨xw101, xw1176, hne_X11, by decide +kernel⟩
abbrev mX11_has : xMD := (yX11_has, cX11_has, 2, (some .boolean), 0, 0)
theorem eX11_has : xD mX11_has 2 := ⟨xw101, xw1451, hne_X11, by decide +kernel⟩
abbrev mX11_found : xMD := (yX11_found, cX11_found, 2, (some .int), 0, 0)
theorem eX11_found : xD mX11_found 1 := ⟨xw101, xw1187, hne_X11, by decide +kernel⟩
abbrev mX11_tells : xMD := (yX11_tells, cX11_tells, 3, (some .int), 0, 0)
theorem eX11_tells : xD mX11_tells 2 := ⟨xw101, xw1199, hne_X11, by decide +kernel⟩
abbrev mX11_asked : xMD := (yX11_asked, cX11_asked, 1, (some .int), 0, 0)
theorem eX11_asked : xD mX11_asked 0 := ⟨xw101, xw1165, hne_X11, by decide +kernel⟩
abbrev mX11_finding : xMD := (yX11_finding, cX11_finding, 1, (some .int), 0, 0)
theorem eX11_finding : xD mX11_finding 0 := ⟨xw101, xw1169, hne_X11, by decide +kernel⟩
abbrev mX11_findings : xMD := (yX11_findings, cX11_findings, 2, (some .int), 1, 22)
theorem eX11_findings : xD mX11_findings 1 := ⟨xw101, xw1173, hne_X11, by decide +kernel⟩
abbrev mX11_isRow : xMD := (yX11_isRow, cX11_isRow, 1, (some .boolean), 1, 22)
theorem eX11_isRow : xD mX11_isRow 1 := ⟨xw101, xw1183, hne_X11, by decide +kernel⟩
abbrev mX11_rowAt : xMD := (yX11_rowAt, cX11_rowAt, 3, (some .int), 0, 0)
theorem eX11_rowAt : xD mX11_rowAt 2 := ⟨xw101, xw1195, hne_X11, by decide +kernel⟩
abbrev mX11_row : xMD := (yX11_row, cX11_row, 4, (some .int), 2, 42)
theorem eX11_row : xD mX11_row 2 := ⟨xw101, xw1180, hne_X11, by decide +kernel⟩
abbrev mX11_lay : xMD := (yX11_lay, cX11_lay, 5, (some .int), 2, 42)
theorem eX11_lay : xD mX11_lay 3 := ⟨xw101, xw1191, hne_X11, by decide +kernel⟩
abbrev mX11_at : xMD := (yX11_at, cX11_at, 3, (some .int), 2, 42)
theorem eX11_at : xD mX11_at 2 := ⟨xw101, xw1203, hne_X11, by decide +kernel⟩
abbrev mX11_tear : xMD := (yX11_tear, cX11_tear, 2, (some .int), 2, 42)
theorem eX11_tear : xD mX11_tear 1 := ⟨xw101, xw1207, hne_X11, by decide +kernel⟩
abbrev mX11_copy : xMD := (yX11_copy, cX11_copy, 7, (some .int), 2, 42)
theorem eX11_copy : xD mX11_copy 5 := ⟨xw101, xw1211, hne_X11, by decide +kernel⟩
abbrev mX11_mean : xMD := (yX11_mean, cX11_mean, 5, (some .int), 2, 42)
theorem eX11_mean : xD mX11_mean 1 := ⟨xw101, xw1215, hne_X11, by decide +kernel⟩
abbrev mX11_isText : xMD := (yX11_isText, cX11_isText, 1, (some .boolean), 1, 22)
theorem eX11_isText : xD mX11_isText 1 := ⟨xw101, xw1222, hne_X11, by decide +kernel⟩
abbrev mX11_text : xMD := (yX11_text, cX11_text, 4, (some .int), 2, 42)
theorem eX11_text : xD mX11_text 2 := ⟨xw101, xw1219, hne_X11, by decide +kernel⟩
abbrev mX11_put : xMD := (yX11_put, cX11_put, 5, (some .int), 2, 42)
theorem eX11_put : xD mX11_put 3 := ⟨xw101, xw1226, hne_X11, by decide +kernel⟩
abbrev mX11_byteAt : xMD := (yX11_byteAt, cX11_byteAt, 3, (some .int), 0, 0)
theorem eX11_byteAt : xD mX11_byteAt 2 := ⟨xw101, xw1242, hne_X11, by decide +kernel⟩
abbrev mX11_blanks : xMD := (yX11_blanks, cX11_blanks, 2, none, 1, 22)
theorem eX11_blanks : xD mX11_blanks 1 := ⟨xw101, xw1238, hne_X11, by decide +kernel⟩
abbrev mX11_isLetter : xMD := (yX11_isLetter, cX11_isLetter, 2, (some .boolean), 1, 22)
theorem eX11_isLetter : xD mX11_isLetter 1 := ⟨xw101, xw1254, hne_X11, by decide +kernel⟩
abbrev mX11_isFigure : xMD := (yX11_isFigure, cX11_isFigure, 2, (some .boolean), 1, 22)
theorem eX11_isFigure : xD mX11_isFigure 1 := ⟨xw101, xw1258, hne_X11, by decide +kernel⟩
abbrev mX11_next : xMD := (yX11_next, cX11_next, 2, none, 2, 43)
theorem eX11_next : xD mX11_next 1 := ⟨xw101, xw1250, hne_X11, by decide +kernel⟩
abbrev mX11_fails : xMD := (yX11_fails, cX11_fails, 1, (some .boolean), 0, 0)
theorem eX11_fails : xD mX11_fails 0 := ⟨xw101, xw1267, hne_X11, by decide +kernel⟩
abbrev mX11_word : xMD := (yX11_word, cX11_word, 4, (some .int), 1, 22)
theorem eX11_word : xD mX11_word 1 := ⟨xw101, xw1262, hne_X11, by decide +kernel⟩
abbrev mX11_number : xMD := (yX11_number, cX11_number, 4, (some .boolean), 3, 64)
theorem eX11_number : xD mX11_number 3 := ⟨xw101, xw1275, hne_X11, by decide +kernel⟩
abbrev mX11_ends : xMD := (yX11_ends, cX11_ends, 2, (some .boolean), 3, 64)
theorem eX11_ends : xD mX11_ends 1 := ⟨xw101, xw1279, hne_X11, by decide +kernel⟩
abbrev mX11_readsPage : xMD := (yX11_readsPage, cX11_readsPage, 2, (some .boolean), 4, 87)
theorem eX11_readsPage : xD mX11_readsPage 1 := ⟨xw101, xw1271, hne_X11, by decide +kernel⟩
abbrev mX11_readsBleed : xMD := (yX11_readsBleed, cX11_readsBleed, 2, (some .boolean), 4, 87)
theorem eX11_readsBleed : xD mX11_readsBleed 1 := ⟨xw101, xw1283, hne_X11, by decide +kernel⟩
abbrev mX11_readsFrame : xMD := (yX11_readsFrame, cX11_readsFrame, 5, (some .boolean), 4, 87)
theorem eX11_readsFrame : xD mX11_readsFrame 2 := ⟨xw101, xw1287, hne_X11, by decide +kernel⟩
abbrev mX11_readsOne : xMD := (yX11_readsOne, cX11_readsOne, 3, (some .boolean), 5, 111)
theorem eX11_readsOne : xD mX11_readsOne 1 := ⟨xw101, xw1246, hne_X11, by decide +kernel⟩
abbrev mX11_faultOf : xMD := (yX11_faultOf, cX11_faultOf, 2, (some .int), 6, 133)
theorem eX11_faultOf : xD mX11_faultOf 1 := ⟨xw101, xw1234, hne_X11, by decide +kernel⟩
abbrev mX11_fault : xMD := (yX11_fault, cX11_fault, 2, (some .int), 7, 154)
theorem eX11_fault : xD mX11_fault 1 := ⟨xw101, xw1230, hne_X11, by decide +kernel⟩
abbrev mX11_sheet : xMD := (yX11_sheet, cX11_sheet, 3, (some .int), 7, 154)
theorem eX11_sheet : xD mX11_sheet 1 := ⟨xw101, xw1291, hne_X11, by decide +kernel⟩
abbrev mX11_writes : xMD := (yX11_writes, cX11_writes, 2, none, 0, 0)
theorem eX11_writes : xD mX11_writes 1 := ⟨xw101, xw1307, hne_X11, by decide +kernel⟩
abbrev mX11_writesWord : xMD := (yX11_writesWord, cX11_writesWord, 3, none, 1, 21)
theorem eX11_writesWord : xD mX11_writesWord 1 := ⟨xw101, xw1303, hne_X11, by decide +kernel⟩
abbrev mX11_writesNumber : xMD := (yX11_writesNumber, cX11_writesNumber, 2, none, 1, 21)
theorem eX11_writesNumber : xD mX11_writesNumber 1 := ⟨xw101, xw1311, hne_X11, by decide +kernel⟩
abbrev mX11_write : xMD := (yX11_write, cX11_write, 5, (some .int), 2, 43)
theorem eX11_write : xD mX11_write 1 := ⟨xw101, xw1299, hne_X11, by decide +kernel⟩
abbrev mX11_isFrame : xMD := (yX11_isFrame, cX11_isFrame, 2, (some .boolean), 1, 22)
theorem eX11_isFrame : xD mX11_isFrame 1 := ⟨xw101, xw1328, hne_X11, by decide +kernel⟩
abbrev mX11_kindOf : xMD := (yX11_kindOf, cX11_kindOf, 2, (some .int), 0, 0)
theorem eX11_kindOf : xD mX11_kindOf 1 := ⟨xw101, xw1316, hne_X11, by decide +kernel⟩
abbrev mX11_of : xMD := (yX11_of, cX11_of, 3, (some .int), 0, 0)
theorem eX11_of : xD mX11_of 2 := ⟨xw101, xw1340, hne_X11, by decide +kernel⟩
abbrev mX11_leftOf : xMD := (yX11_leftOf, cX11_leftOf, 2, (some .int), 1, 22)
theorem eX11_leftOf : xD mX11_leftOf 1 := ⟨xw101, xw1478, hne_X11, by decide +kernel⟩
abbrev mX11_aboveOf : xMD := (yX11_aboveOf, cX11_aboveOf, 2, (some .int), 1, 22)
theorem eX11_aboveOf : xD mX11_aboveOf 1 := ⟨xw101, xw1482, hne_X11, by decide +kernel⟩
abbrev mX11_across : xMD := (yX11_across, cX11_across, 2, (some .int), 1, 22)
theorem eX11_across : xD mX11_across 1 := ⟨xw101, xw1336, hne_X11, by decide +kernel⟩
abbrev mX11_down : xMD := (yX11_down, cX11_down, 2, (some .int), 1, 22)
theorem eX11_down : xD mX11_down 1 := ⟨xw101, xw1344, hne_X11, by decide +kernel⟩
abbrev mX11_edge : xMD := (yX11_edge, cX11_edge, 2, (some .int), 1, 21)
theorem eX11_edge : xD mX11_edge 1 := ⟨xw101, xw1352, hne_X11, by decide +kernel⟩
abbrev mX11_needX : xMD := (yX11_needX, cX11_needX, 3, (some .int), 2, 43)
theorem eX11_needX : xD mX11_needX 2 := ⟨xw101, xw1348, hne_X11, by decide +kernel⟩
abbrev mX11_needY : xMD := (yX11_needY, cX11_needY, 3, (some .int), 3, 65)
theorem eX11_needY : xD mX11_needY 2 := ⟨xw101, xw1356, hne_X11, by decide +kernel⟩
abbrev mX11_isSet : xMD := (yX11_isSet, cX11_isSet, 2, (some .boolean), 0, 0)
theorem eX11_isSet : xD mX11_isSet 1 := ⟨xw101, xw1364, hne_X11, by decide +kernel⟩
abbrev mX11_liftsAll : xMD := (yX11_liftsAll, cX11_liftsAll, 2, none, 0, 0)
theorem eX11_liftsAll : xD mX11_liftsAll 0 := ⟨xw101, xw1295, hne_X11, by decide +kernel⟩
abbrev mX11_frame : xMD := (yX11_frame, cX11_frame, 3, (some .int), 5, 109)
theorem eX11_frame : xD mX11_frame 2 := ⟨xw101, xw1324, hne_X11, by decide +kernel⟩
abbrev mX11_frameTells : xMD := (yX11_frameTells, cX11_frameTells, 3, (some .int), 4, 87)
theorem eX11_frameTells : xD mX11_frameTells 2 := ⟨xw101, xw1332, hne_X11, by decide +kernel⟩
abbrev mX11_place : xMD := (yX11_place, cX11_place, 3, (some .int), 2, 43)
theorem eX11_place : xD mX11_place 2 := ⟨xw101, xw1360, hne_X11, by decide +kernel⟩
abbrev mX11_mark : xMD := (yX11_mark, cX11_mark, 5, (some .int), 4, 87)
theorem eX11_mark : xD mX11_mark 2 := ⟨xw101, xw1368, hne_X11, by decide +kernel⟩
abbrev mX11_pageMany : xMD := (yX11_pageMany, cX11_pageMany, 3, (some .int), 0, 0)
theorem eX11_pageMany : xD mX11_pageMany 0 := ⟨xw101, xw1392, hne_X11, by decide +kernel⟩
abbrev mX11_layGrid : xMD := (yX11_layGrid, cX11_layGrid, 6, none, 4, 87)
theorem eX11_layGrid : xD mX11_layGrid 1 := ⟨xw101, xw1400, hne_X11, by decide +kernel⟩
abbrev mX11_isFree : xMD := (yX11_isFree, cX11_isFree, 7, (some .boolean), 0, 0)
theorem eX11_isFree : xD mX11_isFree 4 := ⟨xw101, xw1404, hne_X11, by decide +kernel⟩
abbrev mX11_isGreatest : xMD := (yX11_isGreatest, cX11_isGreatest, 5, (some .boolean), 1, 26)
theorem eX11_isGreatest : xD mX11_isGreatest 4 := ⟨xw101, xw1408, hne_X11, by decide +kernel⟩
abbrev mX11_layFree : xMD := (yX11_layFree, cX11_layFree, 7, none, 5, 112)
theorem eX11_layFree : xD mX11_layFree 1 := ⟨xw101, xw1396, hne_X11, by decide +kernel⟩
abbrev mX11_first : xMD := (yX11_first, cX11_first, 7, (some .int), 4, 87)
theorem eX11_first : xD mX11_first 4 := ⟨xw101, xw1420, hne_X11, by decide +kernel⟩
abbrev mX11_second : xMD := (yX11_second, cX11_second, 7, (some .int), 4, 87)
theorem eX11_second : xD mX11_second 4 := ⟨xw101, xw1424, hne_X11, by decide +kernel⟩
abbrev mX11_turns : xMD := (yX11_turns, cX11_turns, 2, (some .int), 1, 21)
theorem eX11_turns : xD mX11_turns 1 := ⟨xw101, xw1416, hne_X11, by decide +kernel⟩
abbrev mX11_findsRoom : xMD := (yX11_findsRoom, cX11_findsRoom, 7, (some .boolean), 5, 113)
theorem eX11_findsRoom : xD mX11_findsRoom 2 := ⟨xw101, xw1412, hne_X11, by decide +kernel⟩
abbrev mX11_findsPage : xMD := (yX11_findsPage, cX11_findsPage, 4, (some .int), 6, 139)
theorem eX11_findsPage : xD mX11_findsPage 1 := ⟨xw101, xw1388, hne_X11, by decide +kernel⟩
abbrev mX11_sets : xMD := (yX11_sets, cX11_sets, 3, none, 0, 0)
theorem eX11_sets : xD mX11_sets 2 := ⟨xw101, xw1432, hne_X11, by decide +kernel⟩
abbrev mX11_lifts : xMD := (yX11_lifts, cX11_lifts, 2, none, 0, 0)
theorem eX11_lifts : xD mX11_lifts 1 := ⟨xw101, xw1440, hne_X11, by decide +kernel⟩
abbrev mX11_weight : xMD := (yX11_weight, cX11_weight, 5, (some .int), 4, 87)
theorem eX11_weight : xD mX11_weight 2 := ⟨xw101, xw1455, hne_X11, by decide +kernel⟩
abbrev mX11_setsAll : xMD := (yX11_setsAll, cX11_setsAll, 6, none, 7, 162)
theorem eX11_setsAll : xD mX11_setsAll 1 := ⟨xw101, xw1448, hne_X11, by decide +kernel⟩
abbrev mX11_remember : xMD := (yX11_remember, cX11_remember, 2, none, 0, 0)
theorem eX11_remember : xD mX11_remember 0 := ⟨xw101, xw1428, hne_X11, by decide +kernel⟩
abbrev mX11_undo : xMD := (yX11_undo, cX11_undo, 4, (some .int), 1, 22)
theorem eX11_undo : xD mX11_undo 1 := ⟨xw101, xw1372, hne_X11, by decide +kernel⟩
abbrev mX11_keep : xMD := (yX11_keep, cX11_keep, 3, (some .int), 1, 22)
theorem eX11_keep : xD mX11_keep 1 := ⟨xw101, xw1376, hne_X11, by decide +kernel⟩
abbrev mX11_on : xMD := (yX11_on, cX11_on, 3, (some .int), 1, 22)
theorem eX11_on : xD mX11_on 1 := ⟨xw101, xw1380, hne_X11, by decide +kernel⟩
abbrev mX11_set : xMD := (yX11_set, cX11_set, 3, (some .int), 7, 162)
theorem eX11_set : xD mX11_set 1 := ⟨xw101, xw1384, hne_X11, by decide +kernel⟩
abbrev mX11_lift : xMD := (yX11_lift, cX11_lift, 2, (some .int), 2, 43)
theorem eX11_lift : xD mX11_lift 1 := ⟨xw101, xw1436, hne_X11, by decide +kernel⟩
abbrev mX11_all : xMD := (yX11_all, cX11_all, 2, (some .int), 8, 187)
theorem eX11_all : xD mX11_all 1 := ⟨xw101, xw1444, hne_X11, by decide +kernel⟩
abbrev mX11_rule : xMD := (yX11_rule, cX11_rule, 3, (some .int), 1, 22)
theorem eX11_rule : xD mX11_rule 1 := ⟨xw101, xw1459, hne_X11, by decide +kernel⟩
abbrev mX11_isPage : xMD := (yX11_isPage, cX11_isPage, 2, (some .boolean), 1, 22)
theorem eX11_isPage : xD mX11_isPage 1 := ⟨xw101, xw1467, hne_X11, by decide +kernel⟩
abbrev mX11_free : xMD := (yX11_free, cX11_free, 4, (some .int), 6, 138)
theorem eX11_free : xD mX11_free 3 := ⟨xw101, xw1463, hne_X11, by decide +kernel⟩
abbrev mX11_clamped : xMD := (yX11_clamped, cX11_clamped, 2, (some .int), 0, 0)
theorem eX11_clamped : xD mX11_clamped 2 := ⟨xw101, xw1474, hne_X11, by decide +kernel⟩
abbrev mX11_seen : xMD := (yX11_seen, cX11_seen, 10, (some .int), 5, 112)
theorem eX11_seen : xD mX11_seen 3 := ⟨xw101, xw1471, hne_X11, by decide +kernel⟩
abbrev mX11_point : xMD := (yX11_point, cX11_point, 9, (some .int), 2, 43)
theorem eX11_point : xD mX11_point 3 := ⟨xw101, xw1486, hne_X11, by decide +kernel⟩
abbrev mX11_takenOf : xMD := (yX11_takenOf, cX11_takenOf, 4, (some .int), 4, 87)
theorem eX11_takenOf : xD mX11_takenOf 1 := ⟨xw101, xw1494, hne_X11, by decide +kernel⟩
abbrev mX11_used : xMD := (yX11_used, cX11_used, 3, (some .int), 5, 110)
theorem eX11_used : xD mX11_used 1 := ⟨xw101, xw1490, hne_X11, by decide +kernel⟩
abbrev mX11_takes : xMD := (yX11_takes, cX11_takes, 5, (some .int), 6, 139)
theorem eX11_takes : xD mX11_takes 1 := ⟨xw101, xw1498, hne_X11, by decide +kernel⟩
abbrev mX11_tries : xMD := (yX11_tries, cX11_tries, 4, none, 8, 187)
theorem eX11_tries : xD mX11_tries 2 := ⟨xw101, xw1506, hne_X11, by decide +kernel⟩
abbrev mX11_would : xMD := (yX11_would, cX11_would, 3, (some .int), 9, 210)
theorem eX11_would : xD mX11_would 2 := ⟨xw101, xw1502, hne_X11, by decide +kernel⟩
abbrev mX11_bitsOf : xMD := (yX11_bitsOf, cX11_bitsOf, 3, (some .int), 0, 0)
theorem eX11_bitsOf : xD mX11_bitsOf 1 := ⟨xw101, xw1513, hne_X11, by decide +kernel⟩
abbrev mX11_best : xMD := (yX11_best, cX11_best, 8, (some .int), 9, 210)
theorem eX11_best : xD mX11_best 0 := ⟨xw101, xw1510, hne_X11, by decide +kernel⟩
abbrev mX11_lots : xMD := (yX11_lots, cX11_lots, 9, (some .int), 7, 162)
theorem eX11_lots : xD mX11_lots 2 := ⟨xw101, xw1517, hne_X11, by decide +kernel⟩
abbrev mX11_setMany : xMD := (yX11_setMany, cX11_setMany, 3, (some .int), 1, 21)
theorem eX11_setMany : xD mX11_setMany 0 := ⟨xw101, xw1527, hne_X11, by decide +kernel⟩
abbrev mX11_allTaken : xMD := (yX11_allTaken, cX11_allTaken, 3, (some .int), 5, 110)
theorem eX11_allTaken : xD mX11_allTaken 0 := ⟨xw101, xw1539, hne_X11, by decide +kernel⟩
abbrev mX11_allFree : xMD := (yX11_allFree, cX11_allFree, 3, (some .int), 6, 138)
theorem eX11_allFree : xD mX11_allFree 0 := ⟨xw101, xw1543, hne_X11, by decide +kernel⟩
abbrev mX11_counted : xMD := (yX11_counted, cX11_counted, 4, (some .int), 7, 160)
theorem eX11_counted : xD mX11_counted 1 := ⟨xw101, xw1535, hne_X11, by decide +kernel⟩
abbrev mX11_count : xMD := (yX11_count, cX11_count, 2, (some .int), 8, 183)
theorem eX11_count : xD mX11_count 1 := ⟨xw101, xw1531, hne_X11, by decide +kernel⟩
abbrev mX11_adds : xMD := (yX11_adds, cX11_adds, 3, none, 0, 0)
theorem eX11_adds : xD mX11_adds 1 := ⟨xw101, xw1552, hne_X11, by decide +kernel⟩
abbrev mX11_digest : xMD := (yX11_digest, cX11_digest, 3, (some .long), 8, 183)
theorem eX11_digest : xD mX11_digest 0 := ⟨xw101, xw1547, hne_X11, by decide +kernel⟩
abbrev mL_law : xMD := (yL_law, cL_law, 4, some .boolean, 10, 237)
theorem fX10_11 : xFL RX10 11 10 0 := ⟨rfl, by decide, rfl, inX10, xw386⟩
theorem fX10_17 : xFL RX10 17 10 1 := ⟨rfl, by decide, rfl, inX10, xw387⟩
theorem fX10_23 : xFL RX10 23 10 2 := ⟨rfl, by decide, rfl, inX10, xw388⟩
theorem fX10_27 : xFL RX10 27 10 3 := ⟨rfl, by decide, rfl, inX10, xw389⟩
theorem fX10_32 : xFL RX10 32 10 4 := ⟨rfl, by decide, rfl, inX10, xw390⟩
theorem fX10_39 : xFL RX10 39 10 5 := ⟨rfl, by decide, rfl, inX10, xw391⟩
theorem fX10_46 : xFL RX10 46 10 6 := ⟨rfl, by decide, rfl, inX10, xw392⟩
theorem fX10_53 : xFL RX10 53 10 7 := ⟨rfl, by decide, rfl, inX10, xw393⟩
theorem fX10_60 : xFL RX10 60 10 8 := ⟨rfl, by decide, rfl, inX10, xw394⟩
theorem fX10_64 : xFL RX10 64 10 9 := ⟨rfl, by decide, rfl, inX10, xw395⟩
theorem fX10_71 : xFL RX10 71 10 10 := ⟨rfl, by decide, rfl, inX10, xw396⟩
theorem fX10_75 : xFL RX10 75 10 11 := ⟨rfl, by decide, rfl, inX10, xw397⟩
theorem fX10_79 : xFL RX10 79 10 12 := ⟨rfl, by decide, rfl, inX10, xw398⟩
theorem fX10_100 : xFL RX10 100 5 1 := ⟨rfl, by decide, rfl, inX5, xw364⟩
theorem fX10_103 : xFL RX10 103 5 0 := ⟨rfl, by decide, rfl, inX5, xw362⟩
theorem fX10_124 : xFL RX10 124 9 1 := ⟨rfl, by decide, rfl, inX9, xw380⟩
theorem fX10_125 : xFL RX10 125 9 0 := ⟨rfl, by decide, rfl, inX9, xw377⟩
theorem fX10_140 : xFL RX10 140 7 1 := ⟨rfl, by decide, rfl, inX7, xw248⟩
theorem fX10_148 : xFL RX10 148 6 1 := ⟨rfl, by decide, rfl, inX6, xw309⟩
theorem fX10_149 : xFL RX10 149 6 0 := ⟨rfl, by decide, rfl, inX6, xw307⟩
theorem fX10_154 : xFL RX10 154 7 0 := ⟨rfl, by decide, rfl, inX7, xw242⟩
theorem fX10_163 : xFL RX10 163 8 0 := ⟨rfl, by decide, rfl, inX8, xw149⟩
theorem fX10_176 : xFL RX10 176 0 8 := ⟨rfl, by decide, rfl, inX0, xw205⟩
theorem fX10_179 : xFL RX10 179 0 9 := ⟨rfl, by decide, rfl, inX0, xw207⟩
theorem fX10_204 : xFL RX10 204 1 0 := ⟨rfl, by decide, rfl, inX1, xw136⟩
theorem fX10_217 : xFL RX10 217 1 1 := ⟨rfl, by decide, rfl, inX1, xw140⟩
theorem fX10_220 : xFL RX10 220 8 2 := ⟨rfl, by decide, rfl, inX8, xw152⟩
theorem fX10_232 : xFL RX10 232 2 0 := ⟨rfl, by decide, rfl, inX2, xw345⟩
theorem fX10_241 : xFL RX10 241 4 4 := ⟨rfl, by decide, rfl, inX4, xw332⟩
theorem fX10_243 : xFL RX10 243 7 2 := ⟨rfl, by decide, rfl, inX7, xw253⟩
theorem fX10_246 : xFL RX10 246 7 3 := ⟨rfl, by decide, rfl, inX7, xw258⟩
theorem fX10_257 : xFL RX10 257 0 1 := ⟨rfl, by decide, rfl, inX0, xw185⟩
theorem fX10_260 : xFL RX10 260 0 2 := ⟨rfl, by decide, rfl, inX0, xw189⟩
theorem fX10_263 : xFL RX10 263 0 10 := ⟨rfl, by decide, rfl, inX0, xw209⟩
theorem fX10_266 : xFL RX10 266 0 11 := ⟨rfl, by decide, rfl, inX0, xw211⟩
theorem fX10_275 : xFL RX10 275 0 7 := ⟨rfl, by decide, rfl, inX0, xw203⟩
theorem fX10_307 : xFL RX10 307 7 4 := ⟨rfl, by decide, rfl, inX7, xw262⟩
theorem fX0_9 : xFL RX0 9 0 0 := ⟨rfl, by decide, rfl, inX0, xw179⟩
theorem fX0_15 : xFL RX0 15 0 7 := ⟨rfl, by decide, rfl, inX0, xw202⟩
theorem fX0_18 : xFL RX0 18 0 1 := ⟨rfl, by decide, rfl, inX0, xw182⟩
theorem fX0_21 : xFL RX0 21 0 3 := ⟨rfl, by decide, rfl, inX0, xw190⟩
theorem fX0_24 : xFL RX0 24 0 5 := ⟨rfl, by decide, rfl, inX0, xw196⟩
theorem fX0_27 : xFL RX0 27 0 8 := ⟨rfl, by decide, rfl, inX0, xw204⟩
theorem fX0_30 : xFL RX0 30 0 2 := ⟨rfl, by decide, rfl, inX0, xw186⟩
theorem fX0_33 : xFL RX0 33 0 4 := ⟨rfl, by decide, rfl, inX0, xw193⟩
theorem fX0_36 : xFL RX0 36 0 6 := ⟨rfl, by decide, rfl, inX0, xw199⟩
theorem fX0_39 : xFL RX0 39 0 9 := ⟨rfl, by decide, rfl, inX0, xw206⟩
theorem fX0_42 : xFL RX0 42 0 10 := ⟨rfl, by decide, rfl, inX0, xw208⟩
theorem fX0_45 : xFL RX0 45 0 11 := ⟨rfl, by decide, rfl, inX0, xw210⟩
theorem fX1_9 : xFL RX1 9 1 0 := ⟨rfl, by decide, rfl, inX1, xw133⟩
theorem fX1_15 : xFL RX1 15 1 1 := ⟨rfl, by decide, rfl, inX1, xw137⟩
theorem fX2_12 : xFL RX2 12 2 0 := ⟨rfl, by decide, rfl, inX2, xw344⟩
theorem fX2_18 : xFL RX2 18 2 1 := ⟨rfl, by decide, rfl, inX2, xw346⟩
theorem fX2_32 : xFL RX2 32 7 0 := ⟨rfl, by decide, rfl, inX7, xw238⟩
theorem fX2_38 : xFL RX2 38 1 1 := ⟨rfl, by decide, rfl, inX1, xw138⟩
theorem fX2_57 : xFL RX2 57 7 1 := ⟨rfl, by decide, rfl, inX7, xw246⟩
theorem fX2_60 : xFL RX2 60 1 0 := ⟨rfl, by decide, rfl, inX1, xw134⟩
theorem fX3_12 : xFL RX3 12 3 0 := ⟨rfl, by decide, rfl, inX3, xw274⟩
theorem fX3_18 : xFL RX3 18 3 1 := ⟨rfl, by decide, rfl, inX3, xw275⟩
theorem fX3_22 : xFL RX3 22 3 2 := ⟨rfl, by decide, rfl, inX3, xw276⟩
theorem fX3_26 : xFL RX3 26 3 3 := ⟨rfl, by decide, rfl, inX3, xw277⟩
theorem fX3_29 : xFL RX3 29 3 4 := ⟨rfl, by decide, rfl, inX3, xw278⟩
theorem fX3_32 : xFL RX3 32 3 5 := ⟨rfl, by decide, rfl, inX3, xw279⟩
theorem fX3_35 : xFL RX3 35 3 6 := ⟨rfl, by decide, rfl, inX3, xw280⟩
theorem fX3_38 : xFL RX3 38 3 7 := ⟨rfl, by decide, rfl, inX3, xw281⟩
theorem fX3_42 : xFL RX3 42 9 0 := ⟨rfl, by decide, rfl, inX9, xw376⟩
theorem fX3_45 : xFL RX3 45 9 1 := ⟨rfl, by decide, rfl, inX9, xw379⟩
theorem fX3_52 : xFL RX3 52 7 1 := ⟨rfl, by decide, rfl, inX7, xw247⟩
theorem fX3_53 : xFL RX3 53 7 4 := ⟨rfl, by decide, rfl, inX7, xw261⟩
theorem fX3_78 : xFL RX3 78 7 2 := ⟨rfl, by decide, rfl, inX7, xw252⟩
theorem fX3_81 : xFL RX3 81 7 3 := ⟨rfl, by decide, rfl, inX7, xw257⟩
theorem fX3_95 : xFL RX3 95 7 0 := ⟨rfl, by decide, rfl, inX7, xw241⟩
theorem fX3_99 : xFL RX3 99 0 0 := ⟨rfl, by decide, rfl, inX0, xw181⟩
theorem fX3_111 : xFL RX3 111 0 1 := ⟨rfl, by decide, rfl, inX0, xw184⟩
theorem fX3_114 : xFL RX3 114 0 2 := ⟨rfl, by decide, rfl, inX0, xw188⟩
theorem fX3_117 : xFL RX3 117 0 3 := ⟨rfl, by decide, rfl, inX0, xw192⟩
theorem fX3_120 : xFL RX3 120 0 4 := ⟨rfl, by decide, rfl, inX0, xw195⟩
theorem fX3_123 : xFL RX3 123 0 5 := ⟨rfl, by decide, rfl, inX0, xw198⟩
theorem fX3_126 : xFL RX3 126 0 6 := ⟨rfl, by decide, rfl, inX0, xw201⟩
theorem fX4_9 : xFL RX4 9 4 0 := ⟨rfl, by decide, rfl, inX4, xw327⟩
theorem fX4_15 : xFL RX4 15 4 1 := ⟨rfl, by decide, rfl, inX4, xw328⟩
theorem fX4_18 : xFL RX4 18 4 2 := ⟨rfl, by decide, rfl, inX4, xw329⟩
theorem fX4_22 : xFL RX4 22 4 3 := ⟨rfl, by decide, rfl, inX4, xw330⟩
theorem fX4_25 : xFL RX4 25 4 4 := ⟨rfl, by decide, rfl, inX4, xw331⟩
theorem fX4_28 : xFL RX4 28 7 2 := ⟨rfl, by decide, rfl, inX7, xw250⟩
theorem fX4_37 : xFL RX4 37 7 3 := ⟨rfl, by decide, rfl, inX7, xw255⟩
theorem fX4_38 : xFL RX4 38 7 1 := ⟨rfl, by decide, rfl, inX7, xw244⟩
theorem fX4_49 : xFL RX4 49 7 0 := ⟨rfl, by decide, rfl, inX7, xw240⟩
theorem fX5_9 : xFL RX5 9 5 0 := ⟨rfl, by decide, rfl, inX5, xw361⟩
theorem fX5_15 : xFL RX5 15 5 1 := ⟨rfl, by decide, rfl, inX5, xw363⟩
theorem fX6_9 : xFL RX6 9 6 0 := ⟨rfl, by decide, rfl, inX6, xw306⟩
theorem fX6_15 : xFL RX6 15 6 1 := ⟨rfl, by decide, rfl, inX6, xw308⟩
theorem fX6_25 : xFL RX6 25 7 2 := ⟨rfl, by decide, rfl, inX7, xw251⟩
theorem fX6_34 : xFL RX6 34 7 3 := ⟨rfl, by decide, rfl, inX7, xw256⟩
theorem fX6_40 : xFL RX6 40 7 4 := ⟨rfl, by decide, rfl, inX7, xw260⟩
theorem fX6_44 : xFL RX6 44 7 1 := ⟨rfl, by decide, rfl, inX7, xw245⟩
theorem fX6_45 : xFL RX6 45 7 0 := ⟨rfl, by decide, rfl, inX7, xw239⟩
theorem fX6_53 : xFL RX6 53 0 0 := ⟨rfl, by decide, rfl, inX0, xw180⟩
theorem fX6_62 : xFL RX6 62 0 1 := ⟨rfl, by decide, rfl, inX0, xw183⟩
theorem fX6_65 : xFL RX6 65 0 2 := ⟨rfl, by decide, rfl, inX0, xw187⟩
theorem fX6_68 : xFL RX6 68 0 3 := ⟨rfl, by decide, rfl, inX0, xw191⟩
theorem fX6_71 : xFL RX6 71 0 4 := ⟨rfl, by decide, rfl, inX0, xw194⟩
theorem fX6_74 : xFL RX6 74 0 5 := ⟨rfl, by decide, rfl, inX0, xw197⟩
theorem fX6_77 : xFL RX6 77 0 6 := ⟨rfl, by decide, rfl, inX0, xw200⟩
theorem fX7_11 : xFL RX7 11 7 0 := ⟨rfl, by decide, rfl, inX7, xw237⟩
theorem fX7_17 : xFL RX7 17 7 1 := ⟨rfl, by decide, rfl, inX7, xw243⟩
theorem fX7_21 : xFL RX7 21 7 2 := ⟨rfl, by decide, rfl, inX7, xw249⟩
theorem fX7_24 : xFL RX7 24 7 3 := ⟨rfl, by decide, rfl, inX7, xw254⟩
theorem fX7_27 : xFL RX7 27 7 4 := ⟨rfl, by decide, rfl, inX7, xw259⟩
theorem fX8_12 : xFL RX8 12 8 0 := ⟨rfl, by decide, rfl, inX8, xw148⟩
theorem fX8_18 : xFL RX8 18 8 1 := ⟨rfl, by decide, rfl, inX8, xw150⟩
theorem fX8_22 : xFL RX8 22 8 2 := ⟨rfl, by decide, rfl, inX8, xw151⟩
theorem fX8_29 : xFL RX8 29 1 1 := ⟨rfl, by decide, rfl, inX1, xw139⟩
theorem fX8_36 : xFL RX8 36 1 0 := ⟨rfl, by decide, rfl, inX1, xw135⟩
theorem fX9_9 : xFL RX9 9 9 0 := ⟨rfl, by decide, rfl, inX9, xw375⟩
theorem fX9_15 : xFL RX9 15 9 1 := ⟨rfl, by decide, rfl, inX9, xw378⟩
theorem fX11_7 : xFL RX11 7 11 2 := ⟨rfl, by decide, rfl, inX11, xw1028⟩
theorem fX11_13 : xFL RX11 13 11 3 := ⟨rfl, by decide, rfl, inX11, xw1029⟩
theorem fX11_16 : xFL RX11 16 11 4 := ⟨rfl, by decide, rfl, inX11, xw1030⟩
theorem fX11_19 : xFL RX11 19 11 5 := ⟨rfl, by decide, rfl, inX11, xw1031⟩
theorem fX11_22 : xFL RX11 22 11 6 := ⟨rfl, by decide, rfl, inX11, xw1032⟩
theorem fX11_25 : xFL RX11 25 11 7 := ⟨rfl, by decide, rfl, inX11, xw1033⟩
theorem fX11_29 : xFL RX11 29 11 12 := ⟨rfl, by decide, rfl, inX11, xw1038⟩
theorem fX11_32 : xFL RX11 32 11 22 := ⟨rfl, by decide, rfl, inX11, xw1048⟩
theorem fX11_35 : xFL RX11 35 11 23 := ⟨rfl, by decide, rfl, inX11, xw1049⟩
theorem fX11_38 : xFL RX11 38 11 25 := ⟨rfl, by decide, rfl, inX11, xw1051⟩
theorem fX11_41 : xFL RX11 41 11 26 := ⟨rfl, by decide, rfl, inX11, xw1052⟩
theorem fX11_44 : xFL RX11 44 11 28 := ⟨rfl, by decide, rfl, inX11, xw1054⟩
theorem fX11_47 : xFL RX11 47 11 29 := ⟨rfl, by decide, rfl, inX11, xw1055⟩
theorem fX11_50 : xFL RX11 50 11 30 := ⟨rfl, by decide, rfl, inX11, xw1056⟩
theorem fX11_53 : xFL RX11 53 11 31 := ⟨rfl, by decide, rfl, inX11, xw1057⟩
theorem fX11_56 : xFL RX11 56 11 37 := ⟨rfl, by decide, rfl, inX11, xw1063⟩
theorem fX11_59 : xFL RX11 59 11 38 := ⟨rfl, by decide, rfl, inX11, xw1064⟩
theorem fX11_62 : xFL RX11 62 11 39 := ⟨rfl, by decide, rfl, inX11, xw1065⟩
theorem fX11_65 : xFL RX11 65 11 40 := ⟨rfl, by decide, rfl, inX11, xw1066⟩
theorem fX11_68 : xFL RX11 68 11 1 := ⟨rfl, by decide, rfl, inX11, xw1027⟩
theorem fX11_72 : xFL RX11 72 11 0 := ⟨rfl, by decide, rfl, inX11, xw1026⟩
theorem fX11_97 : xFL RX11 97 11 13 := ⟨rfl, by decide, rfl, inX11, xw1039⟩
theorem fX11_107 : xFL RX11 107 11 14 := ⟨rfl, by decide, rfl, inX11, xw1040⟩
theorem fX11_110 : xFL RX11 110 11 15 := ⟨rfl, by decide, rfl, inX11, xw1041⟩
theorem fX11_119 : xFL RX11 119 11 16 := ⟨rfl, by decide, rfl, inX11, xw1042⟩
theorem fX11_122 : xFL RX11 122 11 17 := ⟨rfl, by decide, rfl, inX11, xw1043⟩
theorem fX11_135 : xFL RX11 135 11 18 := ⟨rfl, by decide, rfl, inX11, xw1044⟩
theorem fX11_138 : xFL RX11 138 11 19 := ⟨rfl, by decide, rfl, inX11, xw1045⟩
theorem fX11_144 : xFL RX11 144 11 20 := ⟨rfl, by decide, rfl, inX11, xw1046⟩
theorem fX11_147 : xFL RX11 147 11 21 := ⟨rfl, by decide, rfl, inX11, xw1047⟩
theorem fX11_170 : xFL RX11 170 11 8 := ⟨rfl, by decide, rfl, inX11, xw1034⟩
theorem fX11_173 : xFL RX11 173 11 9 := ⟨rfl, by decide, rfl, inX11, xw1035⟩
theorem fX11_176 : xFL RX11 176 11 10 := ⟨rfl, by decide, rfl, inX11, xw1036⟩
theorem fX11_179 : xFL RX11 179 11 11 := ⟨rfl, by decide, rfl, inX11, xw1037⟩
theorem fX11_185 : xFL RX11 185 11 36 := ⟨rfl, by decide, rfl, inX11, xw1062⟩
theorem fX11_188 : xFL RX11 188 11 24 := ⟨rfl, by decide, rfl, inX11, xw1050⟩
theorem fX11_242 : xFL RX11 242 11 27 := ⟨rfl, by decide, rfl, inX11, xw1053⟩
theorem fX11_248 : xFL RX11 248 11 32 := ⟨rfl, by decide, rfl, inX11, xw1058⟩
theorem fX11_261 : xFL RX11 261 11 34 := ⟨rfl, by decide, rfl, inX11, xw1060⟩
theorem fX11_264 : xFL RX11 264 11 35 := ⟨rfl, by decide, rfl, inX11, xw1061⟩
theorem fX11_267 : xFL RX11 267 11 33 := ⟨rfl, by decide, rfl, inX11, xw1059⟩
theorem fX11_317 : xFL RX11 317 11 41 := ⟨rfl, by decide, rfl, inX11, xw1067⟩
theorem fX11_320 : xFL RX11 320 11 42 := ⟨rfl, by decide, rfl, inX11, xw1068⟩
theorem fX11_323 : xFL RX11 323 11 43 := ⟨rfl, by decide, rfl, inX11, xw1069⟩
theorem fX11_357 : xFL RX11 357 11 44 := ⟨rfl, by decide, rfl, inX11, xw1070⟩
theorem p0_0 : xFP 0 0 .int false := ⟨⟨tyX0, tyX0_ok⟩, nmX0, tyX0_ok 0 (by decide), rfl⟩
theorem p0_1 : xFP 0 1 .int false := ⟨⟨tyX0, tyX0_ok⟩, nmX0, tyX0_ok 1 (by decide), rfl⟩
theorem p0_2 : xFP 0 2 .int false := ⟨⟨tyX0, tyX0_ok⟩, nmX0, tyX0_ok 2 (by decide), rfl⟩
theorem p0_3 : xFP 0 3 .int false := ⟨⟨tyX0, tyX0_ok⟩, nmX0, tyX0_ok 3 (by decide), rfl⟩
theorem p0_4 : xFP 0 4 .int false := ⟨⟨tyX0, tyX0_ok⟩, nmX0, tyX0_ok 4 (by decide), rfl⟩
theorem p0_5 : xFP 0 5 .int false := ⟨⟨tyX0, tyX0_ok⟩, nmX0, tyX0_ok 5 (by decide), rfl⟩
theorem p0_6 : xFP 0 6 .int false := ⟨⟨tyX0, tyX0_ok⟩, nmX0, tyX0_ok 6 (by decide), rfl⟩
theorem p0_7 : xFP 0 7 .int false := ⟨⟨tyX0, tyX0_ok⟩, nmX0, tyX0_ok 7 (by decide), rfl⟩
theorem p0_8 : xFP 0 8 .int false := ⟨⟨tyX0, tyX0_ok⟩, nmX0, tyX0_ok 8 (by decide), rfl⟩
theorem p0_9 : xFP 0 9 .int false := ⟨⟨tyX0, tyX0_ok⟩, nmX0, tyX0_ok 9 (by decide), rfl⟩
theorem p0_10 : xFP 0 10 .int false := ⟨⟨tyX0, tyX0_ok⟩, nmX0, tyX0_ok 10 (by decide), rfl⟩
theorem p0_11 : xFP 0 11 .int false := ⟨⟨tyX0, tyX0_ok⟩, nmX0, tyX0_ok 11 (by decide), rfl⟩
theorem p1_0 : xFP 1 0 (.array .int) true := ⟨⟨tyX1, tyX1_ok⟩, nmX1, tyX1_ok 0 (by decide), rfl⟩
theorem p1_1 : xFP 1 1 .int false := ⟨⟨tyX1, tyX1_ok⟩, nmX1, tyX1_ok 1 (by decide), rfl⟩
theorem p2_0 : xFP 2 0 (.object "FrameSheets$Room") true := ⟨⟨tyX2, tyX2_ok⟩, nmX2, tyX2_ok 0 (by decide), rfl⟩
theorem p2_1 : xFP 2 1 (.array .int) true := ⟨⟨tyX2, tyX2_ok⟩, nmX2, tyX2_ok 1 (by decide), rfl⟩
theorem p3_0 : xFP 3 0 (.object "FrameSheets$Sheet") false := ⟨⟨tyX3, tyX3_ok⟩, nmX3, tyX3_ok 0 (by decide), rfl⟩
theorem p3_1 : xFP 3 1 (.array .byte) false := ⟨⟨tyX3, tyX3_ok⟩, nmX3, tyX3_ok 1 (by decide), rfl⟩
theorem p3_2 : xFP 3 2 .int false := ⟨⟨tyX3, tyX3_ok⟩, nmX3, tyX3_ok 2 (by decide), rfl⟩
theorem p3_3 : xFP 3 3 .int false := ⟨⟨tyX3, tyX3_ok⟩, nmX3, tyX3_ok 3 (by decide), rfl⟩
theorem p3_4 : xFP 3 4 .int false := ⟨⟨tyX3, tyX3_ok⟩, nmX3, tyX3_ok 4 (by decide), rfl⟩
theorem p3_5 : xFP 3 5 .int false := ⟨⟨tyX3, tyX3_ok⟩, nmX3, tyX3_ok 5 (by decide), rfl⟩
theorem p3_6 : xFP 3 6 .int false := ⟨⟨tyX3, tyX3_ok⟩, nmX3, tyX3_ok 6 (by decide), rfl⟩
theorem p3_7 : xFP 3 7 .boolean false := ⟨⟨tyX3, tyX3_ok⟩, nmX3, tyX3_ok 7 (by decide), rfl⟩
theorem p4_0 : xFP 4 0 (.array .int) true := ⟨⟨tyX4, tyX4_ok⟩, nmX4, tyX4_ok 0 (by decide), rfl⟩
theorem p4_1 : xFP 4 1 (.array .int) true := ⟨⟨tyX4, tyX4_ok⟩, nmX4, tyX4_ok 1 (by decide), rfl⟩
theorem p4_2 : xFP 4 2 .int false := ⟨⟨tyX4, tyX4_ok⟩, nmX4, tyX4_ok 2 (by decide), rfl⟩
theorem p4_3 : xFP 4 3 .int false := ⟨⟨tyX4, tyX4_ok⟩, nmX4, tyX4_ok 3 (by decide), rfl⟩
theorem p4_4 : xFP 4 4 .int false := ⟨⟨tyX4, tyX4_ok⟩, nmX4, tyX4_ok 4 (by decide), rfl⟩
theorem p5_0 : xFP 5 0 (.array .int) true := ⟨⟨tyX5, tyX5_ok⟩, nmX5, tyX5_ok 0 (by decide), rfl⟩
theorem p5_1 : xFP 5 1 .int false := ⟨⟨tyX5, tyX5_ok⟩, nmX5, tyX5_ok 1 (by decide), rfl⟩
theorem p6_0 : xFP 6 0 (.array .byte) true := ⟨⟨tyX6, tyX6_ok⟩, nmX6, tyX6_ok 0 (by decide), rfl⟩
theorem p6_1 : xFP 6 1 .int false := ⟨⟨tyX6, tyX6_ok⟩, nmX6, tyX6_ok 1 (by decide), rfl⟩
theorem p7_0 : xFP 7 0 (.array (.object "FrameSheets$Frame")) true := ⟨⟨tyX7, tyX7_ok⟩, nmX7, tyX7_ok 0 (by decide), rfl⟩
theorem p7_1 : xFP 7 1 .int false := ⟨⟨tyX7, tyX7_ok⟩, nmX7, tyX7_ok 1 (by decide), rfl⟩
theorem p7_2 : xFP 7 2 .int false := ⟨⟨tyX7, tyX7_ok⟩, nmX7, tyX7_ok 2 (by decide), rfl⟩
theorem p7_3 : xFP 7 3 .int false := ⟨⟨tyX7, tyX7_ok⟩, nmX7, tyX7_ok 3 (by decide), rfl⟩
theorem p7_4 : xFP 7 4 .int false := ⟨⟨tyX7, tyX7_ok⟩, nmX7, tyX7_ok 4 (by decide), rfl⟩
theorem p8_0 : xFP 8 0 (.object "FrameSheets$Layout") true := ⟨⟨tyX8, tyX8_ok⟩, nmX8, tyX8_ok 0 (by decide), rfl⟩
theorem p8_1 : xFP 8 1 (.array .int) true := ⟨⟨tyX8, tyX8_ok⟩, nmX8, tyX8_ok 1 (by decide), rfl⟩
theorem p8_2 : xFP 8 2 .int false := ⟨⟨tyX8, tyX8_ok⟩, nmX8, tyX8_ok 2 (by decide), rfl⟩
theorem p9_0 : xFP 9 0 (.array .byte) true := ⟨⟨tyX9, tyX9_ok⟩, nmX9, tyX9_ok 0 (by decide), rfl⟩
theorem p9_1 : xFP 9 1 .int false := ⟨⟨tyX9, tyX9_ok⟩, nmX9, tyX9_ok 1 (by decide), rfl⟩
theorem p10_0 : xFP 10 0 (.array (.object "FrameSheets$Row")) true := ⟨⟨tyX10, tyX10_ok⟩, nmX10, tyX10_ok 0 (by decide), rfl⟩
theorem p10_1 : xFP 10 1 (.array (.object "FrameSheets$Text")) true := ⟨⟨tyX10, tyX10_ok⟩, nmX10, tyX10_ok 1 (by decide), rfl⟩
theorem p10_2 : xFP 10 2 (.array (.object "FrameSheets$Story")) true := ⟨⟨tyX10, tyX10_ok⟩, nmX10, tyX10_ok 2 (by decide), rfl⟩
theorem p10_3 : xFP 10 3 (.array .boolean) true := ⟨⟨tyX10, tyX10_ok⟩, nmX10, tyX10_ok 3 (by decide), rfl⟩
theorem p10_4 : xFP 10 4 (.object "FrameSheets$Story") true := ⟨⟨tyX10, tyX10_ok⟩, nmX10, tyX10_ok 4 (by decide), rfl⟩
theorem p10_5 : xFP 10 5 (.object "FrameSheets$Reader") true := ⟨⟨tyX10, tyX10_ok⟩, nmX10, tyX10_ok 5 (by decide), rfl⟩
theorem p10_6 : xFP 10 6 (.object "FrameSheets$Scribe") true := ⟨⟨tyX10, tyX10_ok⟩, nmX10, tyX10_ok 6 (by decide), rfl⟩
theorem p10_7 : xFP 10 7 (.object "FrameSheets$Packer") true := ⟨⟨tyX10, tyX10_ok⟩, nmX10, tyX10_ok 7 (by decide), rfl⟩
theorem p10_8 : xFP 10 8 (.object "FrameSheets$Layout") true := ⟨⟨tyX10, tyX10_ok⟩, nmX10, tyX10_ok 8 (by decide), rfl⟩
theorem p10_9 : xFP 10 9 (.array .int) true := ⟨⟨tyX10, tyX10_ok⟩, nmX10, tyX10_ok 9 (by decide), rfl⟩
theorem p10_10 : xFP 10 10 (.object "FrameSheets$Sheet") false := ⟨⟨tyX10, tyX10_ok⟩, nmX10, tyX10_ok 10 (by decide), rfl⟩
theorem p10_11 : xFP 10 11 .int false := ⟨⟨tyX10, tyX10_ok⟩, nmX10, tyX10_ok 11 (by decide), rfl⟩
theorem p10_12 : xFP 10 12 .int false := ⟨⟨tyX10, tyX10_ok⟩, nmX10, tyX10_ok 12 (by decide), rfl⟩
theorem p11_0 : xFP 11 0 .int false := ⟨⟨tyX11, tyX11_ok⟩, nmX11, tyX11_ok 0 (by decide), rfl⟩
theorem p11_1 : xFP 11 1 .int false := ⟨⟨tyX11, tyX11_ok⟩, nmX11, tyX11_ok 1 (by decide), rfl⟩
theorem p11_2 : xFP 11 2 (.array .int) true := ⟨⟨tyX11, tyX11_ok⟩, nmX11, tyX11_ok 2 (by decide), rfl⟩
theorem p11_3 : xFP 11 3 (.array .int) true := ⟨⟨tyX11, tyX11_ok⟩, nmX11, tyX11_ok 3 (by decide), rfl⟩
theorem p11_4 : xFP 11 4 (.array .int) true := ⟨⟨tyX11, tyX11_ok⟩, nmX11, tyX11_ok 4 (by decide), rfl⟩
theorem p11_5 : xFP 11 5 (.array .int) true := ⟨⟨tyX11, tyX11_ok⟩, nmX11, tyX11_ok 5 (by decide), rfl⟩
theorem p11_6 : xFP 11 6 (.array .int) true := ⟨⟨tyX11, tyX11_ok⟩, nmX11, tyX11_ok 6 (by decide), rfl⟩
theorem p11_7 : xFP 11 7 (.array .byte) true := ⟨⟨tyX11, tyX11_ok⟩, nmX11, tyX11_ok 7 (by decide), rfl⟩
theorem p11_8 : xFP 11 8 .int false := ⟨⟨tyX11, tyX11_ok⟩, nmX11, tyX11_ok 8 (by decide), rfl⟩
theorem p11_9 : xFP 11 9 .int false := ⟨⟨tyX11, tyX11_ok⟩, nmX11, tyX11_ok 9 (by decide), rfl⟩
theorem p11_10 : xFP 11 10 .int false := ⟨⟨tyX11, tyX11_ok⟩, nmX11, tyX11_ok 10 (by decide), rfl⟩
theorem p11_11 : xFP 11 11 .int false := ⟨⟨tyX11, tyX11_ok⟩, nmX11, tyX11_ok 11 (by decide), rfl⟩
theorem p11_12 : xFP 11 12 (.array .int) true := ⟨⟨tyX11, tyX11_ok⟩, nmX11, tyX11_ok 12 (by decide), rfl⟩
theorem p11_13 : xFP 11 13 .int false := ⟨⟨tyX11, tyX11_ok⟩, nmX11, tyX11_ok 13 (by decide), rfl⟩
theorem p11_14 : xFP 11 14 .int false := ⟨⟨tyX11, tyX11_ok⟩, nmX11, tyX11_ok 14 (by decide), rfl⟩
theorem p11_15 : xFP 11 15 .int false := ⟨⟨tyX11, tyX11_ok⟩, nmX11, tyX11_ok 15 (by decide), rfl⟩
theorem p11_16 : xFP 11 16 .int false := ⟨⟨tyX11, tyX11_ok⟩, nmX11, tyX11_ok 16 (by decide), rfl⟩
theorem p11_17 : xFP 11 17 .int false := ⟨⟨tyX11, tyX11_ok⟩, nmX11, tyX11_ok 17 (by decide), rfl⟩
theorem p11_18 : xFP 11 18 .int false := ⟨⟨tyX11, tyX11_ok⟩, nmX11, tyX11_ok 18 (by decide), rfl⟩
theorem p11_19 : xFP 11 19 .int false := ⟨⟨tyX11, tyX11_ok⟩, nmX11, tyX11_ok 19 (by decide), rfl⟩
theorem p11_20 : xFP 11 20 .int false := ⟨⟨tyX11, tyX11_ok⟩, nmX11, tyX11_ok 20 (by decide), rfl⟩
theorem p11_21 : xFP 11 21 .int false := ⟨⟨tyX11, tyX11_ok⟩, nmX11, tyX11_ok 21 (by decide), rfl⟩
theorem p11_22 : xFP 11 22 (.array .int) true := ⟨⟨tyX11, tyX11_ok⟩, nmX11, tyX11_ok 22 (by decide), rfl⟩
theorem p11_23 : xFP 11 23 (.array .int) true := ⟨⟨tyX11, tyX11_ok⟩, nmX11, tyX11_ok 23 (by decide), rfl⟩
theorem p11_24 : xFP 11 24 .int false := ⟨⟨tyX11, tyX11_ok⟩, nmX11, tyX11_ok 24 (by decide), rfl⟩
theorem p11_25 : xFP 11 25 (.array .byte) true := ⟨⟨tyX11, tyX11_ok⟩, nmX11, tyX11_ok 25 (by decide), rfl⟩
theorem p11_26 : xFP 11 26 (.array .int) true := ⟨⟨tyX11, tyX11_ok⟩, nmX11, tyX11_ok 26 (by decide), rfl⟩
theorem p11_27 : xFP 11 27 .int false := ⟨⟨tyX11, tyX11_ok⟩, nmX11, tyX11_ok 27 (by decide), rfl⟩
theorem p11_28 : xFP 11 28 (.array .int) true := ⟨⟨tyX11, tyX11_ok⟩, nmX11, tyX11_ok 28 (by decide), rfl⟩
theorem p11_29 : xFP 11 29 (.array .int) true := ⟨⟨tyX11, tyX11_ok⟩, nmX11, tyX11_ok 29 (by decide), rfl⟩
theorem p11_30 : xFP 11 30 (.array .int) true := ⟨⟨tyX11, tyX11_ok⟩, nmX11, tyX11_ok 30 (by decide), rfl⟩
theorem p11_31 : xFP 11 31 (.array .int) true := ⟨⟨tyX11, tyX11_ok⟩, nmX11, tyX11_ok 31 (by decide), rfl⟩
theorem p11_32 : xFP 11 32 .int false := ⟨⟨tyX11, tyX11_ok⟩, nmX11, tyX11_ok 32 (by decide), rfl⟩
theorem p11_33 : xFP 11 33 .int false := ⟨⟨tyX11, tyX11_ok⟩, nmX11, tyX11_ok 33 (by decide), rfl⟩
theorem p11_34 : xFP 11 34 .int false := ⟨⟨tyX11, tyX11_ok⟩, nmX11, tyX11_ok 34 (by decide), rfl⟩
theorem p11_35 : xFP 11 35 .int false := ⟨⟨tyX11, tyX11_ok⟩, nmX11, tyX11_ok 35 (by decide), rfl⟩
theorem p11_36 : xFP 11 36 .int false := ⟨⟨tyX11, tyX11_ok⟩, nmX11, tyX11_ok 36 (by decide), rfl⟩
theorem p11_37 : xFP 11 37 (.array .int) true := ⟨⟨tyX11, tyX11_ok⟩, nmX11, tyX11_ok 37 (by decide), rfl⟩
theorem p11_38 : xFP 11 38 (.array .int) true := ⟨⟨tyX11, tyX11_ok⟩, nmX11, tyX11_ok 38 (by decide), rfl⟩
theorem p11_39 : xFP 11 39 (.array .int) true := ⟨⟨tyX11, tyX11_ok⟩, nmX11, tyX11_ok 39 (by decide), rfl⟩
theorem p11_40 : xFP 11 40 (.array .int) true := ⟨⟨tyX11, tyX11_ok⟩, nmX11, tyX11_ok 40 (by decide), rfl⟩
theorem p11_41 : xFP 11 41 .int false := ⟨⟨tyX11, tyX11_ok⟩, nmX11, tyX11_ok 41 (by decide), rfl⟩
theorem p11_42 : xFP 11 42 .int false := ⟨⟨tyX11, tyX11_ok⟩, nmX11, tyX11_ok 42 (by decide), rfl⟩
theorem p11_43 : xFP 11 43 .int false := ⟨⟨tyX11, tyX11_ok⟩, nmX11, tyX11_ok 43 (by decide), rfl⟩
theorem p11_44 : xFP 11 44 .long false := ⟨⟨tyX11, tyX11_ok⟩, nmX11, tyX11_ok 44 (by decide), rfl⟩
theorem kX0_init_3 : Cond.methodLink RX0 3 Lib.objectInit ∈ xwl ∧ Cond.instanceMethod Lib.objectInit ∈ xwl ∧ Cond.code Lib.objectInit ⟨#[0xb1]⟩ 1 none ∈ xwl := ⟨xw178, xw114, xw115⟩
theorem kX0_mayTurn_48 : xCV mX0_mayTurn 48 mX0_isOf 1 0 := ⟨xC0.mk eX0_isOf (Nat.le_of_ble_eq_true rfl) (Nat.le_of_ble_eq_true rfl), xw798, xw727, xw728, rfl, rfl, by decide⟩
theorem kX0_needsPlaces_52 : xCV mX0_needsPlaces 52 mX0_needsAcross 1 0 := ⟨xC0.mk eX0_needsAcross (Nat.le_of_ble_eq_true rfl) (Nat.le_of_ble_eq_true rfl), xw686, xw687, xw688, rfl, rfl, by decide⟩
theorem kX0_needsPlaces_56 : xCV mX0_needsPlaces 56 mX0_needsDown 1 0 := ⟨xC0.mk eX0_needsDown (Nat.le_of_ble_eq_true rfl) (Nat.le_of_ble_eq_true rfl), xw690, xw691, xw692, rfl, rfl, by decide⟩
theorem kX0_edgePlaces_59 : xCV mX0_edgePlaces 59 mX0_needsPlaces 0 0 := ⟨xC0.mk eX0_needsPlaces (Nat.le_of_ble_eq_true rfl) (Nat.le_of_ble_eq_true rfl), xw737, xw738, xw739, rfl, rfl, by decide⟩
theorem kX0_part_52 : xCV mX0_part 52 mX0_needsAcross 1 0 := ⟨xC0.mk eX0_needsAcross (Nat.le_of_ble_eq_true rfl) (Nat.le_of_ble_eq_true rfl), xw686, xw687, xw688, rfl, rfl, by decide⟩
theorem kX0_part_56 : xCV mX0_part 56 mX0_needsDown 1 0 := ⟨xC0.mk eX0_needsDown (Nat.le_of_ble_eq_true rfl) (Nat.le_of_ble_eq_true rfl), xw690, xw691, xw692, rfl, rfl, by decide⟩
theorem kX1_init_3 : Cond.methodLink RX1 3 Lib.objectInit ∈ xwl ∧ Cond.instanceMethod Lib.objectInit ∈ xwl ∧ Cond.code Lib.objectInit ⟨#[0xb1]⟩ 1 none ∈ xwl := ⟨xw132, xw114, xw115⟩
theorem kX1_part_19 : xCV mX1_part 19 mX1_pageOf 1 1 := ⟨xC0.mk eX1_pageOf (Nat.le_of_ble_eq_true rfl) (Nat.le_of_ble_eq_true rfl), xw706, xw707, xw708, rfl, rfl, by decide⟩
theorem kX1_part_23 : xCV mX1_part 23 mX1_xOf 1 1 := ⟨xC0.mk eX1_xOf (Nat.le_of_ble_eq_true rfl) (Nat.le_of_ble_eq_true rfl), xw710, xw711, xw712, rfl, rfl, by decide⟩
theorem kX1_part_26 : xCV mX1_part 26 mX1_yOf 1 1 := ⟨xC0.mk eX1_yOf (Nat.le_of_ble_eq_true rfl) (Nat.le_of_ble_eq_true rfl), xw714, xw715, xw716, rfl, rfl, by decide⟩
theorem kX1_part_29 : xCV mX1_part 29 mX1_isTurned 1 1 := ⟨xC0.mk eX1_isTurned (Nat.le_of_ble_eq_true rfl) (Nat.le_of_ble_eq_true rfl), xw718, xw719, xw720, rfl, rfl, by decide⟩
theorem kX1_pages_33 : xCV mX1_pages 33 mX1_isSet 1 1 := ⟨xC0.mk eX1_isSet (Nat.le_of_ble_eq_true rfl) (Nat.le_of_ble_eq_true rfl), xw757, xw699, xw700, rfl, rfl, by decide⟩
theorem kX1_pages_19 : xCV mX1_pages 19 mX1_pageOf 1 1 := ⟨xC0.mk eX1_pageOf (Nat.le_of_ble_eq_true rfl) (Nat.le_of_ble_eq_true rfl), xw706, xw707, xw708, rfl, rfl, by decide⟩
theorem kX1_pages_36 : xMa mX1_pages 36 Lib.Math.max.name Lib.Math.max.code 2 := ⟨xw758, xw445, xw102, xw446, (Nat.le_of_ble_eq_true rfl), (Nat.le_of_ble_eq_true rfl)⟩
theorem kX1_framesSet_33 : xCV mX1_framesSet 33 mX1_isSet 1 1 := ⟨xC0.mk eX1_isSet (Nat.le_of_ble_eq_true rfl) (Nat.le_of_ble_eq_true rfl), xw757, xw699, xw700, rfl, rfl, by decide⟩
theorem kX1_framesTurned_33 : xCV mX1_framesTurned 33 mX1_isSet 1 1 := ⟨xC0.mk eX1_isSet (Nat.le_of_ble_eq_true rfl) (Nat.le_of_ble_eq_true rfl), xw757, xw699, xw700, rfl, rfl, by decide⟩
theorem kX1_framesTurned_29 : xCV mX1_framesTurned 29 mX1_isTurned 1 1 := ⟨xC0.mk eX1_isTurned (Nat.le_of_ble_eq_true rfl) (Nat.le_of_ble_eq_true rfl), xw718, xw719, xw720, rfl, rfl, by decide⟩
theorem kX2_init_3 : Cond.methodLink RX2 3 Lib.objectInit ∈ xwl ∧ Cond.instanceMethod Lib.objectInit ∈ xwl ∧ Cond.code Lib.objectInit ⟨#[0xb1]⟩ 1 none ∈ xwl := ⟨xw320, xw114, xw115⟩
theorem kX2_init_11 : xCIN mX2_init 11 mX4_init 0 RX10 := ⟨xC0.mk eX4_init (Nat.le_of_ble_eq_true rfl) (Nat.le_of_ble_eq_true rfl), (List.mem_of_getElem? (i := 5) rfl), xw324, rfl, rfl⟩
theorem kX2_spotFor_22 : xCV mX2_spotFor 22 mX1_pages 0 1 := ⟨xC0.mk eX1_pages (Nat.le_of_ble_eq_true rfl) (Nat.le_of_ble_eq_true rfl), xw753, xw754, xw755, rfl, rfl, by decide⟩
theorem kX2_spotFor_28 : xCV mX2_spotFor 28 mX4_look 3 4 := ⟨xC0.mk eX4_look (Nat.le_of_ble_eq_true rfl) (Nat.le_of_ble_eq_true rfl), xw759, xw760, xw761, rfl, rfl, by decide⟩
theorem kX2_spotFor_42 : xCV mX2_spotFor 42 mX4_bestSpot 2 4 := ⟨xC0.mk eX4_bestSpot (Nat.le_of_ble_eq_true rfl) (Nat.le_of_ble_eq_true rfl), xw790, xw791, xw792, rfl, rfl, by decide⟩
theorem kX2_spotFor_46 : xCS mX2_spotFor 46 mX1_spotOnPage 2 := ⟨xC0.mk eX1_spotOnPage (Nat.le_of_ble_eq_true rfl) (Nat.le_of_ble_eq_true rfl), xw819, xw820⟩
theorem kX2_setAllAnew_50 : xCV mX2_setAllAnew 50 mX1_liftAll 0 1 := ⟨xC0.mk eX1_liftAll (Nat.le_of_ble_eq_true rfl) (Nat.le_of_ble_eq_true rfl), xw846, xw637, xw638, rfl, rfl, by decide⟩
theorem kX2_setAllAnew_53 : xCV mX2_setAllAnew 53 mX2_fillQueue 2 2 := ⟨xC0.mk eX2_fillQueue (Nat.le_of_ble_eq_true rfl) (Nat.le_of_ble_eq_true rfl), xw847, xw849, xw21, rfl, rfl, by decide⟩
theorem kX2_setAllAnew_63 : xCV mX2_setAllAnew 63 mX2_spotFor 3 2 := ⟨xC0.mk eX2_spotFor (Nat.le_of_ble_eq_true rfl) (Nat.le_of_ble_eq_true rfl), xw858, xw750, xw751, rfl, rfl, by decide⟩
theorem kX2_fillQueue_67 : xCS mX2_fillQueue 67 mX2_weightOf 2 := ⟨xC0.mk eX2_weightOf (Nat.le_of_ble_eq_true rfl) (Nat.le_of_ble_eq_true rfl), xw851, xw852⟩
theorem kX2_weightOf_70 : xCV mX2_weightOf 70 mX0_needsPlaces 0 0 := ⟨xC0.mk eX0_needsPlaces (Nat.le_of_ble_eq_true rfl) (Nat.le_of_ble_eq_true rfl), xw854, xw738, xw739, rfl, rfl, by decide⟩
theorem kX2_weightOf_75 : xCV mX2_weightOf 75 mX0_needsAcross 1 0 := ⟨xC0.mk eX0_needsAcross (Nat.le_of_ble_eq_true rfl) (Nat.le_of_ble_eq_true rfl), xw855, xw687, xw688, rfl, rfl, by decide⟩
theorem kX2_weightOf_79 : xCV mX2_weightOf 79 mX0_needsDown 1 0 := ⟨xC0.mk eX0_needsDown (Nat.le_of_ble_eq_true rfl) (Nat.le_of_ble_eq_true rfl), xw856, xw691, xw692, rfl, rfl, by decide⟩
theorem kX2_weightOf_82 : xMa mX2_weightOf 82 Lib.Math.max.name Lib.Math.max.code 2 := ⟨xw857, xw445, xw102, xw446, (Nat.le_of_ble_eq_true rfl), (Nat.le_of_ble_eq_true rfl)⟩
theorem kX3_init_3 : Cond.methodLink RX3 3 Lib.objectInit ∈ xwl ∧ Cond.instanceMethod Lib.objectInit ∈ xwl ∧ Cond.code Lib.objectInit ⟨#[0xb1]⟩ 1 none ∈ xwl := ⟨xw165, xw114, xw115⟩
theorem kX3_init_11 : xCI mX3_init 11 mX7_init 0 := ⟨xC0.mk eX7_init (Nat.le_of_ble_eq_true rfl) (Nat.le_of_ble_eq_true rfl), xw168, xw169, rfl, rfl⟩
theorem kX3_faultOf_46 : xMa mX3_faultOf 46 Lib.Math.min.name Lib.Math.min.code 2 := ⟨xw512, xw442, xw102, xw443, (Nat.le_of_ble_eq_true rfl), (Nat.le_of_ble_eq_true rfl)⟩
theorem kX3_faultOf_56 : xCV mX3_faultOf 56 mX3_advance 0 3 := ⟨xC0.mk eX3_advance (Nat.le_of_ble_eq_true rfl) (Nat.le_of_ble_eq_true rfl), xw513, xw515, xw2, rfl, rfl, by decide⟩
theorem kX3_faultOf_59 : xCV mX3_faultOf 59 mX3_readPage 0 3 := ⟨xC0.mk eX3_readPage (Nat.le_of_ble_eq_true rfl) (Nat.le_of_ble_eq_true rfl), xw523, xw525, xw3, rfl, rfl, by decide⟩
theorem kX3_faultOf_63 : xCV mX3_faultOf 63 mX3_readStatement 0 3 := ⟨xC0.mk eX3_readStatement (Nat.le_of_ble_eq_true rfl) (Nat.le_of_ble_eq_true rfl), xw588, xw590, xw7, rfl, rfl, by decide⟩
theorem kX3_faultOf_66 : xCV mX3_faultOf 66 mX7_settle 0 7 := ⟨xC0.mk eX7_settle (Nat.le_of_ble_eq_true rfl) (Nat.le_of_ble_eq_true rfl), xw616, xw617, xw618, rfl, rfl, by decide⟩
theorem kX3_readPage_71 : xCV mX3_readPage 71 mX3_isAtWord 1 3 := ⟨xC0.mk eX3_isAtWord (Nat.le_of_ble_eq_true rfl) (Nat.le_of_ble_eq_true rfl), xw528, xw530, xw4, rfl, rfl, by decide⟩
theorem kX3_readPage_56 : xCV mX3_readPage 56 mX3_advance 0 3 := ⟨xC0.mk eX3_advance (Nat.le_of_ble_eq_true rfl) (Nat.le_of_ble_eq_true rfl), xw513, xw515, xw2, rfl, rfl, by decide⟩
theorem kX3_readPage_75 : xCV mX3_readPage 75 mX3_takeNumber 2 3 := ⟨xC0.mk eX3_takeNumber (Nat.le_of_ble_eq_true rfl) (Nat.le_of_ble_eq_true rfl), xw580, xw582, xw5, rfl, rfl, by decide⟩
theorem kX3_readPage_84 : xCV mX3_readPage 84 mX3_takeStop 0 3 := ⟨xC0.mk eX3_takeStop (Nat.le_of_ble_eq_true rfl) (Nat.le_of_ble_eq_true rfl), xw584, xw586, xw6, rfl, rfl, by decide⟩
theorem kX3_readStatement_71 : xCV mX3_readStatement 71 mX3_isAtWord 1 3 := ⟨xC0.mk eX3_isAtWord (Nat.le_of_ble_eq_true rfl) (Nat.le_of_ble_eq_true rfl), xw528, xw530, xw4, rfl, rfl, by decide⟩
theorem kX3_readStatement_88 : xCV mX3_readStatement 88 mX3_readBleed 0 3 := ⟨xC0.mk eX3_readBleed (Nat.le_of_ble_eq_true rfl) (Nat.le_of_ble_eq_true rfl), xw593, xw595, xw8, rfl, rfl, by decide⟩
theorem kX3_readStatement_91 : xCV mX3_readStatement 91 mX3_kindAtHand 0 3 := ⟨xC0.mk eX3_kindAtHand (Nat.le_of_ble_eq_true rfl) (Nat.le_of_ble_eq_true rfl), xw597, xw599, xw9, rfl, rfl, by decide⟩
theorem kX3_readStatement_56 : xCV mX3_readStatement 56 mX3_advance 0 3 := ⟨xC0.mk eX3_advance (Nat.le_of_ble_eq_true rfl) (Nat.le_of_ble_eq_true rfl), xw513, xw515, xw2, rfl, rfl, by decide⟩
theorem kX3_readStatement_104 : xCV mX3_readStatement 104 mX3_readSides 1 3 := ⟨xC0.mk eX3_readSides (Nat.le_of_ble_eq_true rfl) (Nat.le_of_ble_eq_true rfl), xw608, xw610, xw10, rfl, rfl, by decide⟩
theorem kX3_readStatement_108 : xCV mX3_readStatement 108 mX3_readEmpty 1 3 := ⟨xC0.mk eX3_readEmpty (Nat.le_of_ble_eq_true rfl) (Nat.le_of_ble_eq_true rfl), xw612, xw614, xw11, rfl, rfl, by decide⟩
theorem kX3_readStatement_84 : xCV mX3_readStatement 84 mX3_takeStop 0 3 := ⟨xC0.mk eX3_takeStop (Nat.le_of_ble_eq_true rfl) (Nat.le_of_ble_eq_true rfl), xw584, xw586, xw6, rfl, rfl, by decide⟩
theorem kX3_readBleed_56 : xCV mX3_readBleed 56 mX3_advance 0 3 := ⟨xC0.mk eX3_advance (Nat.le_of_ble_eq_true rfl) (Nat.le_of_ble_eq_true rfl), xw513, xw515, xw2, rfl, rfl, by decide⟩
theorem kX3_readBleed_75 : xCV mX3_readBleed 75 mX3_takeNumber 2 3 := ⟨xC0.mk eX3_takeNumber (Nat.le_of_ble_eq_true rfl) (Nat.le_of_ble_eq_true rfl), xw580, xw582, xw5, rfl, rfl, by decide⟩
theorem kX3_readBleed_84 : xCV mX3_readBleed 84 mX3_takeStop 0 3 := ⟨xC0.mk eX3_takeStop (Nat.le_of_ble_eq_true rfl) (Nat.le_of_ble_eq_true rfl), xw584, xw586, xw6, rfl, rfl, by decide⟩
theorem kX3_readSides_75 : xCV mX3_readSides 75 mX3_takeNumber 2 3 := ⟨xC0.mk eX3_takeNumber (Nat.le_of_ble_eq_true rfl) (Nat.le_of_ble_eq_true rfl), xw580, xw582, xw5, rfl, rfl, by decide⟩
theorem kX3_readEmpty_75 : xCV mX3_readEmpty 75 mX3_takeNumber 2 3 := ⟨xC0.mk eX3_takeNumber (Nat.le_of_ble_eq_true rfl) (Nat.le_of_ble_eq_true rfl), xw580, xw582, xw5, rfl, rfl, by decide⟩
theorem kX3_readEmpty_46 : xMa mX3_readEmpty 46 Lib.Math.min.name Lib.Math.min.code 2 := ⟨xw512, xw442, xw102, xw443, (Nat.le_of_ble_eq_true rfl), (Nat.le_of_ble_eq_true rfl)⟩
theorem kX3_takeNumber_56 : xCV mX3_takeNumber 56 mX3_advance 0 3 := ⟨xC0.mk eX3_advance (Nat.le_of_ble_eq_true rfl) (Nat.le_of_ble_eq_true rfl), xw513, xw515, xw2, rfl, rfl, by decide⟩
theorem kX3_takeStop_56 : xCV mX3_takeStop 56 mX3_advance 0 3 := ⟨xC0.mk eX3_advance (Nat.le_of_ble_eq_true rfl) (Nat.le_of_ble_eq_true rfl), xw513, xw515, xw2, rfl, rfl, by decide⟩
theorem kX3_kindAtHand_129 : xCSN mX3_kindAtHand 129 mX10_wordOf 1 RX10 := ⟨xC0.mk eX10_wordOf (Nat.le_of_ble_eq_true rfl) (Nat.le_of_ble_eq_true rfl), (List.mem_of_getElem? (i := 8) rfl), xw602⟩
theorem kX3_kindAtHand_71 : xCV mX3_kindAtHand 71 mX3_isAtWord 1 3 := ⟨xC0.mk eX3_isAtWord (Nat.le_of_ble_eq_true rfl) (Nat.le_of_ble_eq_true rfl), xw528, xw530, xw4, rfl, rfl, by decide⟩
theorem kX3_advance_142 : xCS mX3_advance 142 mX3_isLetter 1 := ⟨xC0.mk eX3_isLetter (Nat.le_of_ble_eq_true rfl) (Nat.le_of_ble_eq_true rfl), xw517, xw518⟩
theorem kX3_advance_146 : xCS mX3_advance 146 mX3_isFigure 1 := ⟨xC0.mk eX3_isFigure (Nat.le_of_ble_eq_true rfl) (Nat.le_of_ble_eq_true rfl), xw520, xw521⟩
theorem kX3_advance_46 : xMa mX3_advance 46 Lib.Math.min.name Lib.Math.min.code 2 := ⟨xw512, xw442, xw102, xw443, (Nat.le_of_ble_eq_true rfl), (Nat.le_of_ble_eq_true rfl)⟩
theorem kX4_init_3 : Cond.methodLink RX4 3 Lib.objectInit ∈ xwl ∧ Cond.instanceMethod Lib.objectInit ∈ xwl ∧ Cond.code Lib.objectInit ⟨#[0xb1]⟩ 1 none ∈ xwl := ⟨xw326, xw114, xw115⟩
theorem kX4_look_31 : xMa mX4_look 31 Lib.Math.min.name Lib.Math.min.code 2 := ⟨xw763, xw442, xw102, xw443, (Nat.le_of_ble_eq_true rfl), (Nat.le_of_ble_eq_true rfl)⟩
theorem kX4_look_39 : xCV mX4_look 39 mX1_isSet 1 1 := ⟨xC0.mk eX1_isSet (Nat.le_of_ble_eq_true rfl) (Nat.le_of_ble_eq_true rfl), xw764, xw699, xw700, rfl, rfl, by decide⟩
theorem kX4_look_45 : xCV mX4_look 45 mX1_pageOf 1 1 := ⟨xC0.mk eX1_pageOf (Nat.le_of_ble_eq_true rfl) (Nat.le_of_ble_eq_true rfl), xw765, xw707, xw708, rfl, rfl, by decide⟩
theorem kX4_look_53 : xCV mX4_look 53 mX4_cover 3 4 := ⟨xC0.mk eX4_cover (Nat.le_of_ble_eq_true rfl) (Nat.le_of_ble_eq_true rfl), xw766, xw768, xw17, rfl, rfl, by decide⟩
theorem kX4_look_57 : xCV mX4_look 57 mX4_findFree 0 4 := ⟨xC0.mk eX4_findFree (Nat.le_of_ble_eq_true rfl) (Nat.le_of_ble_eq_true rfl), xw778, xw780, xw18, rfl, rfl, by decide⟩
theorem kX4_cover_60 : xCV mX4_cover 60 mX1_isTurned 1 1 := ⟨xC0.mk eX1_isTurned (Nat.le_of_ble_eq_true rfl) (Nat.le_of_ble_eq_true rfl), xw770, xw719, xw720, rfl, rfl, by decide⟩
theorem kX4_cover_63 : xCV mX4_cover 63 mX1_xOf 1 1 := ⟨xC0.mk eX1_xOf (Nat.le_of_ble_eq_true rfl) (Nat.le_of_ble_eq_true rfl), xw771, xw711, xw712, rfl, rfl, by decide⟩
theorem kX4_cover_66 : xCV mX4_cover 66 mX0_needsAcross 1 0 := ⟨xC0.mk eX0_needsAcross (Nat.le_of_ble_eq_true rfl) (Nat.le_of_ble_eq_true rfl), xw772, xw687, xw688, rfl, rfl, by decide⟩
theorem kX4_cover_72 : xCS mX4_cover 72 mX4_span 2 := ⟨xC0.mk eX4_span (Nat.le_of_ble_eq_true rfl) (Nat.le_of_ble_eq_true rfl), xw773, xw774⟩
theorem kX4_cover_75 : xCV mX4_cover 75 mX1_yOf 1 1 := ⟨xC0.mk eX1_yOf (Nat.le_of_ble_eq_true rfl) (Nat.le_of_ble_eq_true rfl), xw776, xw715, xw716, rfl, rfl, by decide⟩
theorem kX4_cover_78 : xCV mX4_cover 78 mX0_needsDown 1 0 := ⟨xC0.mk eX0_needsDown (Nat.le_of_ble_eq_true rfl) (Nat.le_of_ble_eq_true rfl), xw777, xw691, xw692, rfl, rfl, by decide⟩
theorem kX4_cover_31 : xMa mX4_cover 31 Lib.Math.min.name Lib.Math.min.code 2 := ⟨xw763, xw442, xw102, xw443, (Nat.le_of_ble_eq_true rfl), (Nat.le_of_ble_eq_true rfl)⟩
theorem kX4_findFree_72 : xCS mX4_findFree 72 mX4_span 2 := ⟨xC0.mk eX4_span (Nat.le_of_ble_eq_true rfl) (Nat.le_of_ble_eq_true rfl), xw773, xw774⟩
theorem kX4_findFree_81 : xCV mX4_findFree 81 mX4_addRuns 5 4 := ⟨xC0.mk eX4_addRuns (Nat.le_of_ble_eq_true rfl) (Nat.le_of_ble_eq_true rfl), xw782, xw784, xw19, rfl, rfl, by decide⟩
theorem kX4_addRuns_72 : xCS mX4_addRuns 72 mX4_span 2 := ⟨xC0.mk eX4_span (Nat.le_of_ble_eq_true rfl) (Nat.le_of_ble_eq_true rfl), xw773, xw774⟩
theorem kX4_addRuns_85 : xCV mX4_addRuns 85 mX4_insert 1 4 := ⟨xC0.mk eX4_insert (Nat.le_of_ble_eq_true rfl) (Nat.le_of_ble_eq_true rfl), xw786, xw788, xw20, rfl, rfl, by decide⟩
theorem kX4_part_89 : xCS mX4_part 89 mX4_xOf 1 := ⟨xC0.mk eX4_xOf (Nat.le_of_ble_eq_true rfl) (Nat.le_of_ble_eq_true rfl), xw813, xw814⟩
theorem kX4_part_90 : xCS mX4_part 90 mX4_yOf 1 := ⟨xC0.mk eX4_yOf (Nat.le_of_ble_eq_true rfl) (Nat.le_of_ble_eq_true rfl), xw809, xw810⟩
theorem kX4_part_91 : xCS mX4_part 91 mX4_acrossOf 1 := ⟨xC0.mk eX4_acrossOf (Nat.le_of_ble_eq_true rfl) (Nat.le_of_ble_eq_true rfl), xw799, xw800⟩
theorem kX4_part_94 : xCS mX4_part 94 mX4_downOf 1 := ⟨xC0.mk eX4_downOf (Nat.le_of_ble_eq_true rfl) (Nat.le_of_ble_eq_true rfl), xw802, xw803⟩
theorem kX4_greatest_91 : xCS mX4_greatest 91 mX4_acrossOf 1 := ⟨xC0.mk eX4_acrossOf (Nat.le_of_ble_eq_true rfl) (Nat.le_of_ble_eq_true rfl), xw799, xw800⟩
theorem kX4_greatest_94 : xCS mX4_greatest 94 mX4_downOf 1 := ⟨xC0.mk eX4_downOf (Nat.le_of_ble_eq_true rfl) (Nat.le_of_ble_eq_true rfl), xw802, xw803⟩
theorem kX4_greatest_98 : xMa mX4_greatest 98 Lib.Math.max.name Lib.Math.max.code 2 := ⟨xw808, xw445, xw102, xw446, (Nat.le_of_ble_eq_true rfl), (Nat.le_of_ble_eq_true rfl)⟩
theorem kX4_bestSpot_101 : xCV mX4_bestSpot 101 mX0_mayTurn 0 0 := ⟨xC0.mk eX0_mayTurn (Nat.le_of_ble_eq_true rfl) (Nat.le_of_ble_eq_true rfl), xw794, xw795, xw796, rfl, rfl, by decide⟩
theorem kX4_bestSpot_66 : xCV mX4_bestSpot 66 mX0_needsAcross 1 0 := ⟨xC0.mk eX0_needsAcross (Nat.le_of_ble_eq_true rfl) (Nat.le_of_ble_eq_true rfl), xw772, xw687, xw688, rfl, rfl, by decide⟩
theorem kX4_bestSpot_78 : xCV mX4_bestSpot 78 mX0_needsDown 1 0 := ⟨xC0.mk eX0_needsDown (Nat.le_of_ble_eq_true rfl) (Nat.le_of_ble_eq_true rfl), xw777, xw691, xw692, rfl, rfl, by decide⟩
theorem kX4_bestSpot_91 : xCS mX4_bestSpot 91 mX4_acrossOf 1 := ⟨xC0.mk eX4_acrossOf (Nat.le_of_ble_eq_true rfl) (Nat.le_of_ble_eq_true rfl), xw799, xw800⟩
theorem kX4_bestSpot_94 : xCS mX4_bestSpot 94 mX4_downOf 1 := ⟨xC0.mk eX4_downOf (Nat.le_of_ble_eq_true rfl) (Nat.le_of_ble_eq_true rfl), xw802, xw803⟩
theorem kX4_bestSpot_105 : xCS mX4_bestSpot 105 mX4_numbersOf 4 := ⟨xC0.mk eX4_numbersOf (Nat.le_of_ble_eq_true rfl) (Nat.le_of_ble_eq_true rfl), xw805, xw806⟩
theorem kX4_bestSpot_89 : xCS mX4_bestSpot 89 mX4_xOf 1 := ⟨xC0.mk eX4_xOf (Nat.le_of_ble_eq_true rfl) (Nat.le_of_ble_eq_true rfl), xw813, xw814⟩
theorem kX4_bestSpot_90 : xCS mX4_bestSpot 90 mX4_yOf 1 := ⟨xC0.mk eX4_yOf (Nat.le_of_ble_eq_true rfl) (Nat.le_of_ble_eq_true rfl), xw809, xw810⟩
theorem kX4_bestSpot_109 : xCS mX4_bestSpot 109 mX1_spotAt 3 := ⟨xC0.mk eX1_spotAt (Nat.le_of_ble_eq_true rfl) (Nat.le_of_ble_eq_true rfl), xw816, xw817⟩
theorem kX4_numbersOf_91 : xCS mX4_numbersOf 91 mX4_acrossOf 1 := ⟨xC0.mk eX4_acrossOf (Nat.le_of_ble_eq_true rfl) (Nat.le_of_ble_eq_true rfl), xw799, xw800⟩
theorem kX4_numbersOf_94 : xCS mX4_numbersOf 94 mX4_downOf 1 := ⟨xC0.mk eX4_downOf (Nat.le_of_ble_eq_true rfl) (Nat.le_of_ble_eq_true rfl), xw802, xw803⟩
theorem kX4_numbersOf_31 : xMa mX4_numbersOf 31 Lib.Math.min.name Lib.Math.min.code 2 := ⟨xw763, xw442, xw102, xw443, (Nat.le_of_ble_eq_true rfl), (Nat.le_of_ble_eq_true rfl)⟩
theorem kX4_numbersOf_98 : xMa mX4_numbersOf 98 Lib.Math.max.name Lib.Math.max.code 2 := ⟨xw808, xw445, xw102, xw446, (Nat.le_of_ble_eq_true rfl), (Nat.le_of_ble_eq_true rfl)⟩
theorem kX4_numbersOf_90 : xCS mX4_numbersOf 90 mX4_yOf 1 := ⟨xC0.mk eX4_yOf (Nat.le_of_ble_eq_true rfl) (Nat.le_of_ble_eq_true rfl), xw809, xw810⟩
theorem kX4_numbersOf_89 : xCS mX4_numbersOf 89 mX4_xOf 1 := ⟨xC0.mk eX4_xOf (Nat.le_of_ble_eq_true rfl) (Nat.le_of_ble_eq_true rfl), xw813, xw814⟩
theorem kX5_init_3 : Cond.methodLink RX5 3 Lib.objectInit ∈ xwl ∧ Cond.instanceMethod Lib.objectInit ∈ xwl ∧ Cond.code Lib.objectInit ⟨#[0xb1]⟩ 1 none ∈ xwl := ⟨xw360, xw114, xw115⟩
theorem kX5_renew_19 : xMa mX5_renew 19 Lib.Math.min.name Lib.Math.min.code 2 := ⟨xw441, xw442, xw102, xw443, (Nat.le_of_ble_eq_true rfl), (Nat.le_of_ble_eq_true rfl)⟩
theorem kX5_renew_25 : xMa mX5_renew 25 Lib.Math.max.name Lib.Math.max.code 2 := ⟨xw444, xw445, xw102, xw446, (Nat.le_of_ble_eq_true rfl), (Nat.le_of_ble_eq_true rfl)⟩
theorem kX6_init_3 : Cond.methodLink RX6 3 Lib.objectInit ∈ xwl ∧ Cond.instanceMethod Lib.objectInit ∈ xwl ∧ Cond.code Lib.objectInit ⟨#[0xb1]⟩ 1 none ∈ xwl := ⟨xw305, xw114, xw115⟩
theorem kX6_writeSheet_21 : xCV mX6_writeSheet 21 mX6_addWord 1 6 := ⟨xC0.mk eX6_addWord (Nat.le_of_ble_eq_true rfl) (Nat.le_of_ble_eq_true rfl), xw653, xw655, xw13, rfl, rfl, by decide⟩
theorem kX6_writeSheet_30 : xCV mX6_writeSheet 30 mX6_addNumber 1 6 := ⟨xC0.mk eX6_addNumber (Nat.le_of_ble_eq_true rfl) (Nat.le_of_ble_eq_true rfl), xw663, xw665, xw15, rfl, rfl, by decide⟩
theorem kX6_writeSheet_37 : xCV mX6_writeSheet 37 mX6_addSign 1 6 := ⟨xC0.mk eX6_addSign (Nat.le_of_ble_eq_true rfl) (Nat.le_of_ble_eq_true rfl), xw659, xw661, xw14, rfl, rfl, by decide⟩
theorem kX6_writeSheet_49 : xCV mX6_writeSheet 49 mX6_writeFrame 1 6 := ⟨xC0.mk eX6_writeFrame (Nat.le_of_ble_eq_true rfl) (Nat.le_of_ble_eq_true rfl), xw668, xw670, xw16, rfl, rfl, by decide⟩
theorem kX6_writeFrame_58 : xCSN mX6_writeFrame 58 mX10_wordOf 1 RX10 := ⟨xC0.mk eX10_wordOf (Nat.le_of_ble_eq_true rfl) (Nat.le_of_ble_eq_true rfl), (List.mem_of_getElem? (i := 9) rfl), xw602⟩
theorem kX6_writeFrame_21 : xCV mX6_writeFrame 21 mX6_addWord 1 6 := ⟨xC0.mk eX6_addWord (Nat.le_of_ble_eq_true rfl) (Nat.le_of_ble_eq_true rfl), xw653, xw655, xw13, rfl, rfl, by decide⟩
theorem kX6_writeFrame_30 : xCV mX6_writeFrame 30 mX6_addNumber 1 6 := ⟨xC0.mk eX6_addNumber (Nat.le_of_ble_eq_true rfl) (Nat.le_of_ble_eq_true rfl), xw663, xw665, xw15, rfl, rfl, by decide⟩
theorem kX6_writeFrame_37 : xCV mX6_writeFrame 37 mX6_addSign 1 6 := ⟨xC0.mk eX6_addSign (Nat.le_of_ble_eq_true rfl) (Nat.le_of_ble_eq_true rfl), xw659, xw661, xw14, rfl, rfl, by decide⟩
theorem kX6_addWord_37 : xCV mX6_addWord 37 mX6_addSign 1 6 := ⟨xC0.mk eX6_addSign (Nat.le_of_ble_eq_true rfl) (Nat.le_of_ble_eq_true rfl), xw659, xw661, xw14, rfl, rfl, by decide⟩
theorem kX6_addNumber_37 : xCV mX6_addNumber 37 mX6_addSign 1 6 := ⟨xC0.mk eX6_addSign (Nat.le_of_ble_eq_true rfl) (Nat.le_of_ble_eq_true rfl), xw659, xw661, xw14, rfl, rfl, by decide⟩
theorem kX7_init_3 : Cond.methodLink RX7 3 Lib.objectInit ∈ xwl ∧ Cond.instanceMethod Lib.objectInit ∈ xwl ∧ Cond.code Lib.objectInit ⟨#[0xb1]⟩ 1 none ∈ xwl := ⟨xw171, xw114, xw115⟩
theorem kX7_init_30 : xCIN mX7_init 30 mX0_init 0 RX10 := ⟨xC0.mk eX0_init (Nat.le_of_ble_eq_true rfl) (Nat.le_of_ble_eq_true rfl), (List.mem_of_getElem? (i := 2) rfl), xw176, rfl, rfl⟩
theorem kX7_settle_31 : xCV mX7_settle 31 mX0_settle 1 0 := ⟨xC0.mk eX0_settle (Nat.le_of_ble_eq_true rfl) (Nat.le_of_ble_eq_true rfl), xw620, xw621, xw622, rfl, rfl, by decide⟩
theorem kX7_placesTaken_35 : xCV mX7_placesTaken 35 mX1_isSet 1 1 := ⟨xC0.mk eX1_isSet (Nat.le_of_ble_eq_true rfl) (Nat.le_of_ble_eq_true rfl), xw930, xw699, xw700, rfl, rfl, by decide⟩
theorem kX7_placesTaken_41 : xCV mX7_placesTaken 41 mX1_pageOf 1 1 := ⟨xC0.mk eX1_pageOf (Nat.le_of_ble_eq_true rfl) (Nat.le_of_ble_eq_true rfl), xw931, xw707, xw708, rfl, rfl, by decide⟩
theorem kX7_placesTaken_45 : xCV mX7_placesTaken 45 mX0_needsPlaces 0 0 := ⟨xC0.mk eX0_needsPlaces (Nat.le_of_ble_eq_true rfl) (Nat.le_of_ble_eq_true rfl), xw932, xw738, xw739, rfl, rfl, by decide⟩
theorem kX8_init_3 : Cond.methodLink RX8 3 Lib.objectInit ∈ xwl ∧ Cond.instanceMethod Lib.objectInit ∈ xwl ∧ Cond.code Lib.objectInit ⟨#[0xb1]⟩ 1 none ∈ xwl := ⟨xw126, xw114, xw115⟩
theorem kX8_init_11 : xCI mX8_init 11 mX1_init 0 := ⟨xC0.mk eX1_init (Nat.le_of_ble_eq_true rfl) (Nat.le_of_ble_eq_true rfl), xw129, xw130, rfl, rfl⟩
theorem kX8_start_26 : xCV mX8_start 26 mX1_liftAll 0 1 := ⟨xC0.mk eX1_liftAll (Nat.le_of_ble_eq_true rfl) (Nat.le_of_ble_eq_true rfl), xw636, xw637, xw638, rfl, rfl, by decide⟩
theorem kX8_beginDeed_32 : xCV mX8_beginDeed 32 mX8_isFull 0 8 := ⟨xC0.mk eX8_isFull (Nat.le_of_ble_eq_true rfl) (Nat.le_of_ble_eq_true rfl), xw830, xw823, xw824, rfl, rfl, by decide⟩
theorem kX8_beginDeed_39 : xCp mX8_beginDeed 39 := ⟨xw831, xw477, xw476, xw103, (Nat.le_of_ble_eq_true rfl), by decide +kernel⟩
theorem kX8_goBackTo_39 : xCp mX8_goBackTo 39 := ⟨xw831, xw477, xw476, xw103, (Nat.le_of_ble_eq_true rfl), by decide +kernel⟩
theorem kX8_takeOver_39 : xCp mX8_takeOver 39 := ⟨xw831, xw477, xw476, xw103, (Nat.le_of_ble_eq_true rfl), by decide +kernel⟩
theorem kX9_init_3 : Cond.methodLink RX9 3 Lib.objectInit ∈ xwl ∧ Cond.instanceMethod Lib.objectInit ∈ xwl ∧ Cond.code Lib.objectInit ⟨#[0xb1]⟩ 1 none ∈ xwl := ⟨xw374, xw114, xw115⟩
theorem kX9_renew_19 : xMa mX9_renew 19 Lib.Math.min.name Lib.Math.min.code 2 := ⟨xw494, xw442, xw102, xw443, (Nat.le_of_ble_eq_true rfl), (Nat.le_of_ble_eq_true rfl)⟩
theorem kX9_renew_25 : xMa mX9_renew 25 Lib.Math.max.name Lib.Math.max.code 2 := ⟨xw495, xw445, xw102, xw446, (Nat.le_of_ble_eq_true rfl), (Nat.le_of_ble_eq_true rfl)⟩
theorem kX9_takeOver_19 : xMa mX9_takeOver 19 Lib.Math.min.name Lib.Math.min.code 2 := ⟨xw494, xw442, xw102, xw443, (Nat.le_of_ble_eq_true rfl), (Nat.le_of_ble_eq_true rfl)⟩
theorem kX9_takeOver_25 : xMa mX9_takeOver 25 Lib.Math.max.name Lib.Math.max.code 2 := ⟨xw495, xw445, xw102, xw446, (Nat.le_of_ble_eq_true rfl), (Nat.le_of_ble_eq_true rfl)⟩
theorem kX9_takeOver_28 : xCp mX9_takeOver 28 := ⟨xw677, xw477, xw476, xw103, (Nat.le_of_ble_eq_true rfl), by decide +kernel⟩
theorem kX10_init_1 : Cond.methodLink RX10 1 Lib.objectInit ∈ xwl ∧ Cond.instanceMethod Lib.objectInit ∈ xwl ∧ Cond.code Lib.objectInit ⟨#[0xb1]⟩ 1 none ∈ xwl := ⟨xw113, xw114, xw115⟩
theorem kX10_init_31 : xCIN mX10_init 31 mX8_init 0 RX10 := ⟨xC0.mk eX8_init (Nat.le_of_ble_eq_true rfl) (Nat.le_of_ble_eq_true rfl), (List.mem_of_getElem? (i := 0) rfl), xw124, rfl, rfl⟩
theorem kX10_init_38 : xCIN mX10_init 38 mX3_init 0 RX10 := ⟨xC0.mk eX3_init (Nat.le_of_ble_eq_true rfl) (Nat.le_of_ble_eq_true rfl), (List.mem_of_getElem? (i := 1) rfl), xw163, rfl, rfl⟩
theorem kX10_init_45 : xCIN mX10_init 45 mX6_init 0 RX10 := ⟨xC0.mk eX6_init (Nat.le_of_ble_eq_true rfl) (Nat.le_of_ble_eq_true rfl), (List.mem_of_getElem? (i := 3) rfl), xw303, rfl, rfl⟩
theorem kX10_init_52 : xCIN mX10_init 52 mX2_init 0 RX10 := ⟨xC0.mk eX2_init (Nat.le_of_ble_eq_true rfl) (Nat.le_of_ble_eq_true rfl), (List.mem_of_getElem? (i := 4) rfl), xw318, rfl, rfl⟩
theorem kX10_init_59 : xCI mX10_init 59 mX1_init 0 := ⟨xC0.mk eX1_init (Nat.le_of_ble_eq_true rfl) (Nat.le_of_ble_eq_true rfl), xw353, xw130, rfl, rfl⟩
theorem kX10_init_70 : xCI mX10_init 70 mX7_init 0 := ⟨xC0.mk eX7_init (Nat.le_of_ble_eq_true rfl) (Nat.le_of_ble_eq_true rfl), xw355, xw169, rfl, rfl⟩
theorem kX10_init_82 : xCIN mX10_init 82 mX5_init 0 RX10 := ⟨xC0.mk eX5_init (Nat.le_of_ble_eq_true rfl) (Nat.le_of_ble_eq_true rfl), (List.mem_of_getElem? (i := 6) rfl), xw358, rfl, rfl⟩
theorem kX10_init_83 : xCIN mX10_init 83 mX9_init 0 RX10 := ⟨xC0.mk eX9_init (Nat.le_of_ble_eq_true rfl) (Nat.le_of_ble_eq_true rfl), (List.mem_of_getElem? (i := 7) rfl), xw372, rfl, rfl⟩
theorem kX10_row_84 : xCS mX10_row 84 mX10_isBelow 2 := ⟨xC0.mk eX10_isBelow (Nat.le_of_ble_eq_true rfl) (Nat.le_of_ble_eq_true rfl), xw430, xw431⟩
theorem kX10_row_88 : xCV mX10_row 88 mX10_refuse 1 10 := ⟨xC0.mk eX10_refuse (Nat.le_of_ble_eq_true rfl) (Nat.le_of_ble_eq_true rfl), xw433, xw435, xw0, rfl, rfl, by decide⟩
theorem kX10_row_92 : xCV mX10_row 92 mX5_renew 1 5 := ⟨xC0.mk eX5_renew (Nat.le_of_ble_eq_true rfl) (Nat.le_of_ble_eq_true rfl), xw437, xw438, xw439, rfl, rfl, by decide⟩
theorem kX10_lay_84 : xCS mX10_lay 84 mX10_isBelow 2 := ⟨xC0.mk eX10_isBelow (Nat.le_of_ble_eq_true rfl) (Nat.le_of_ble_eq_true rfl), xw430, xw431⟩
theorem kX10_lay_96 : xCV mX10_lay 96 mX5_isMissing 0 5 := ⟨xC0.mk eX5_isMissing (Nat.le_of_ble_eq_true rfl) (Nat.le_of_ble_eq_true rfl), xw451, xw452, xw453, rfl, rfl, by decide⟩
theorem kX10_lay_88 : xCV mX10_lay 88 mX10_refuse 1 10 := ⟨xC0.mk eX10_refuse (Nat.le_of_ble_eq_true rfl) (Nat.le_of_ble_eq_true rfl), xw433, xw435, xw0, rfl, rfl, by decide⟩
theorem kX10_lay_106 : xCV mX10_lay 106 mX10_tell 1 10 := ⟨xC0.mk eX10_tell (Nat.le_of_ble_eq_true rfl) (Nat.le_of_ble_eq_true rfl), xw455, xw457, xw1, rfl, rfl, by decide⟩
theorem kX10_at_84 : xCS mX10_at 84 mX10_isBelow 2 := ⟨xC0.mk eX10_isBelow (Nat.le_of_ble_eq_true rfl) (Nat.le_of_ble_eq_true rfl), xw430, xw431⟩
theorem kX10_at_96 : xCV mX10_at 96 mX5_isMissing 0 5 := ⟨xC0.mk eX5_isMissing (Nat.le_of_ble_eq_true rfl) (Nat.le_of_ble_eq_true rfl), xw451, xw452, xw453, rfl, rfl, by decide⟩
theorem kX10_at_88 : xCV mX10_at 88 mX10_refuse 1 10 := ⟨xC0.mk eX10_refuse (Nat.le_of_ble_eq_true rfl) (Nat.le_of_ble_eq_true rfl), xw433, xw435, xw0, rfl, rfl, by decide⟩
theorem kX10_at_106 : xCV mX10_at 106 mX10_tell 1 10 := ⟨xC0.mk eX10_tell (Nat.le_of_ble_eq_true rfl) (Nat.le_of_ble_eq_true rfl), xw455, xw457, xw1, rfl, rfl, by decide⟩
theorem kX10_tear_84 : xCS mX10_tear 84 mX10_isBelow 2 := ⟨xC0.mk eX10_isBelow (Nat.le_of_ble_eq_true rfl) (Nat.le_of_ble_eq_true rfl), xw430, xw431⟩
theorem kX10_tear_96 : xCV mX10_tear 96 mX5_isMissing 0 5 := ⟨xC0.mk eX5_isMissing (Nat.le_of_ble_eq_true rfl) (Nat.le_of_ble_eq_true rfl), xw451, xw452, xw453, rfl, rfl, by decide⟩
theorem kX10_tear_88 : xCV mX10_tear 88 mX10_refuse 1 10 := ⟨xC0.mk eX10_refuse (Nat.le_of_ble_eq_true rfl) (Nat.le_of_ble_eq_true rfl), xw433, xw435, xw0, rfl, rfl, by decide⟩
theorem kX10_copy_84 : xCS mX10_copy 84 mX10_isBelow 2 := ⟨xC0.mk eX10_isBelow (Nat.le_of_ble_eq_true rfl) (Nat.le_of_ble_eq_true rfl), xw430, xw431⟩
theorem kX10_copy_88 : xCV mX10_copy 88 mX10_refuse 1 10 := ⟨xC0.mk eX10_refuse (Nat.le_of_ble_eq_true rfl) (Nat.le_of_ble_eq_true rfl), xw433, xw435, xw0, rfl, rfl, by decide⟩
theorem kX10_copy_96 : xCV mX10_copy 96 mX5_isMissing 0 5 := ⟨xC0.mk eX5_isMissing (Nat.le_of_ble_eq_true rfl) (Nat.le_of_ble_eq_true rfl), xw451, xw452, xw453, rfl, rfl, by decide⟩
theorem kX10_copy_109 : xCV mX10_copy 109 mX5_holds 2 5 := ⟨xC0.mk eX5_holds (Nat.le_of_ble_eq_true rfl) (Nat.le_of_ble_eq_true rfl), xw471, xw472, xw473, rfl, rfl, by decide⟩
theorem kX10_copy_112 : xCp mX10_copy 112 := ⟨xw475, xw477, xw476, xw103, (Nat.le_of_ble_eq_true rfl), by decide +kernel⟩
theorem kX10_mean_84 : xCS mX10_mean 84 mX10_isBelow 2 := ⟨xC0.mk eX10_isBelow (Nat.le_of_ble_eq_true rfl) (Nat.le_of_ble_eq_true rfl), xw430, xw431⟩
theorem kX10_mean_96 : xCV mX10_mean 96 mX5_isMissing 0 5 := ⟨xC0.mk eX5_isMissing (Nat.le_of_ble_eq_true rfl) (Nat.le_of_ble_eq_true rfl), xw451, xw452, xw453, rfl, rfl, by decide⟩
theorem kX10_mean_88 : xCV mX10_mean 88 mX10_refuse 1 10 := ⟨xC0.mk eX10_refuse (Nat.le_of_ble_eq_true rfl) (Nat.le_of_ble_eq_true rfl), xw433, xw435, xw0, rfl, rfl, by decide⟩
theorem kX10_mean_118 : xCV mX10_mean 118 mX5_sum 0 5 := ⟨xC0.mk eX5_sum (Nat.le_of_ble_eq_true rfl) (Nat.le_of_ble_eq_true rfl), xw482, xw483, xw484, rfl, rfl, by decide⟩
theorem kX10_mean_106 : xCV mX10_mean 106 mX10_tell 1 10 := ⟨xC0.mk eX10_tell (Nat.le_of_ble_eq_true rfl) (Nat.le_of_ble_eq_true rfl), xw455, xw457, xw1, rfl, rfl, by decide⟩
theorem kX10_text_84 : xCS mX10_text 84 mX10_isBelow 2 := ⟨xC0.mk eX10_isBelow (Nat.le_of_ble_eq_true rfl) (Nat.le_of_ble_eq_true rfl), xw430, xw431⟩
theorem kX10_text_88 : xCV mX10_text 88 mX10_refuse 1 10 := ⟨xC0.mk eX10_refuse (Nat.le_of_ble_eq_true rfl) (Nat.le_of_ble_eq_true rfl), xw433, xw435, xw0, rfl, rfl, by decide⟩
theorem kX10_text_122 : xCV mX10_text 122 mX9_renew 1 9 := ⟨xC0.mk eX9_renew (Nat.le_of_ble_eq_true rfl) (Nat.le_of_ble_eq_true rfl), xw490, xw491, xw492, rfl, rfl, by decide⟩
theorem kX10_put_84 : xCS mX10_put 84 mX10_isBelow 2 := ⟨xC0.mk eX10_isBelow (Nat.le_of_ble_eq_true rfl) (Nat.le_of_ble_eq_true rfl), xw430, xw431⟩
theorem kX10_put_123 : xCV mX10_put 123 mX9_isMissing 0 9 := ⟨xC0.mk eX9_isMissing (Nat.le_of_ble_eq_true rfl) (Nat.le_of_ble_eq_true rfl), xw500, xw501, xw502, rfl, rfl, by decide⟩
theorem kX10_put_88 : xCV mX10_put 88 mX10_refuse 1 10 := ⟨xC0.mk eX10_refuse (Nat.le_of_ble_eq_true rfl) (Nat.le_of_ble_eq_true rfl), xw433, xw435, xw0, rfl, rfl, by decide⟩
theorem kX10_fault_84 : xCS mX10_fault 84 mX10_isBelow 2 := ⟨xC0.mk eX10_isBelow (Nat.le_of_ble_eq_true rfl) (Nat.le_of_ble_eq_true rfl), xw430, xw431⟩
theorem kX10_fault_123 : xCV mX10_fault 123 mX9_isMissing 0 9 := ⟨xC0.mk eX9_isMissing (Nat.le_of_ble_eq_true rfl) (Nat.le_of_ble_eq_true rfl), xw500, xw501, xw502, rfl, rfl, by decide⟩
theorem kX10_fault_88 : xCV mX10_fault 88 mX10_refuse 1 10 := ⟨xC0.mk eX10_refuse (Nat.le_of_ble_eq_true rfl) (Nat.le_of_ble_eq_true rfl), xw433, xw435, xw0, rfl, rfl, by decide⟩
theorem kX10_fault_129 : xCV mX10_fault 129 mX3_faultOf 1 3 := ⟨xC0.mk eX3_faultOf (Nat.le_of_ble_eq_true rfl) (Nat.le_of_ble_eq_true rfl), xw508, xw509, xw510, rfl, rfl, by decide⟩
theorem kX10_sheet_84 : xCS mX10_sheet 84 mX10_isBelow 2 := ⟨xC0.mk eX10_isBelow (Nat.le_of_ble_eq_true rfl) (Nat.le_of_ble_eq_true rfl), xw430, xw431⟩
theorem kX10_sheet_123 : xCV mX10_sheet 123 mX9_isMissing 0 9 := ⟨xC0.mk eX9_isMissing (Nat.le_of_ble_eq_true rfl) (Nat.le_of_ble_eq_true rfl), xw500, xw501, xw502, rfl, rfl, by decide⟩
theorem kX10_sheet_88 : xCV mX10_sheet 88 mX10_refuse 1 10 := ⟨xC0.mk eX10_refuse (Nat.le_of_ble_eq_true rfl) (Nat.le_of_ble_eq_true rfl), xw433, xw435, xw0, rfl, rfl, by decide⟩
theorem kX10_sheet_129 : xCV mX10_sheet 129 mX3_faultOf 1 3 := ⟨xC0.mk eX3_faultOf (Nat.le_of_ble_eq_true rfl) (Nat.le_of_ble_eq_true rfl), xw508, xw509, xw510, rfl, rfl, by decide⟩
theorem kX10_sheet_133 : xCV mX10_sheet 133 mX3_exchangeDraft 1 3 := ⟨xC0.mk eX3_exchangeDraft (Nat.le_of_ble_eq_true rfl) (Nat.le_of_ble_eq_true rfl), xw628, xw629, xw630, rfl, rfl, by decide⟩
theorem kX10_sheet_137 : xCV mX10_sheet 137 mX8_start 0 8 := ⟨xC0.mk eX8_start (Nat.le_of_ble_eq_true rfl) (Nat.le_of_ble_eq_true rfl), xw632, xw633, xw634, rfl, rfl, by decide⟩
theorem kX10_write_84 : xCS mX10_write 84 mX10_isBelow 2 := ⟨xC0.mk eX10_isBelow (Nat.le_of_ble_eq_true rfl) (Nat.le_of_ble_eq_true rfl), xw430, xw431⟩
theorem kX10_write_141 : xCV mX10_write 141 mX10_hasNoSheet 0 10 := ⟨xC0.mk eX10_hasNoSheet (Nat.le_of_ble_eq_true rfl) (Nat.le_of_ble_eq_true rfl), xw644, xw646, xw12, rfl, rfl, by decide⟩
theorem kX10_write_144 : xCV mX10_write 144 mX6_writeSheet 1 6 := ⟨xC0.mk eX6_writeSheet (Nat.le_of_ble_eq_true rfl) (Nat.le_of_ble_eq_true rfl), xw648, xw649, xw650, rfl, rfl, by decide⟩
theorem kX10_write_150 : xCV mX10_write 150 mX9_takeOver 2 9 := ⟨xC0.mk eX9_takeOver (Nat.le_of_ble_eq_true rfl) (Nat.le_of_ble_eq_true rfl), xw673, xw674, xw675, rfl, rfl, by decide⟩
theorem kX10_frame_84 : xCS mX10_frame 84 mX10_isBelow 2 := ⟨xC0.mk eX10_isBelow (Nat.le_of_ble_eq_true rfl) (Nat.le_of_ble_eq_true rfl), xw430, xw431⟩
theorem kX10_frame_158 : xCV mX10_frame 158 mX0_part 1 0 := ⟨xC0.mk eX0_part (Nat.le_of_ble_eq_true rfl) (Nat.le_of_ble_eq_true rfl), xw682, xw683, xw684, rfl, rfl, by decide⟩
theorem kX10_frame_106 : xCV mX10_frame 106 mX10_tell 1 10 := ⟨xC0.mk eX10_tell (Nat.le_of_ble_eq_true rfl) (Nat.le_of_ble_eq_true rfl), xw455, xw457, xw1, rfl, rfl, by decide⟩
theorem kX10_place_84 : xCS mX10_place 84 mX10_isBelow 2 := ⟨xC0.mk eX10_isBelow (Nat.le_of_ble_eq_true rfl) (Nat.le_of_ble_eq_true rfl), xw430, xw431⟩
theorem kX10_place_166 : xCV mX10_place 166 mX1_isSet 1 1 := ⟨xC0.mk eX1_isSet (Nat.le_of_ble_eq_true rfl) (Nat.le_of_ble_eq_true rfl), xw698, xw699, xw700, rfl, rfl, by decide⟩
theorem kX10_place_170 : xCV mX10_place 170 mX1_part 2 1 := ⟨xC0.mk eX1_part (Nat.le_of_ble_eq_true rfl) (Nat.le_of_ble_eq_true rfl), xw702, xw703, xw704, rfl, rfl, by decide⟩
theorem kX10_place_106 : xCV mX10_place 106 mX10_tell 1 10 := ⟨xC0.mk eX10_tell (Nat.le_of_ble_eq_true rfl) (Nat.le_of_ble_eq_true rfl), xw455, xw457, xw1, rfl, rfl, by decide⟩
theorem kX10_mark_84 : xCS mX10_mark 84 mX10_isBelow 2 := ⟨xC0.mk eX10_isBelow (Nat.le_of_ble_eq_true rfl) (Nat.le_of_ble_eq_true rfl), xw430, xw431⟩
theorem kX10_mark_173 : xCV mX10_mark 173 mX0_isOf 1 0 := ⟨xC0.mk eX0_isOf (Nat.le_of_ble_eq_true rfl) (Nat.le_of_ble_eq_true rfl), xw726, xw727, xw728, rfl, rfl, by decide⟩
theorem kX10_mark_88 : xCV mX10_mark 88 mX10_refuse 1 10 := ⟨xC0.mk eX10_refuse (Nat.le_of_ble_eq_true rfl) (Nat.le_of_ble_eq_true rfl), xw433, xw435, xw0, rfl, rfl, by decide⟩
theorem kX10_mark_182 : xMa mX10_mark 182 Lib.Math.abs.name Lib.Math.abs.code 1 := ⟨xw730, xw731, xw102, xw732, (Nat.le_of_ble_eq_true rfl), (Nat.le_of_ble_eq_true rfl)⟩
theorem kX10_mark_187 : xCV mX10_mark 187 mX0_edgePlaces 0 0 := ⟨xC0.mk eX0_edgePlaces (Nat.le_of_ble_eq_true rfl) (Nat.le_of_ble_eq_true rfl), xw733, xw734, xw735, rfl, rfl, by decide⟩
theorem kX10_mark_191 : xCV mX10_mark 191 mX0_emptyPoints 0 0 := ⟨xC0.mk eX0_emptyPoints (Nat.le_of_ble_eq_true rfl) (Nat.le_of_ble_eq_true rfl), xw741, xw742, xw743, rfl, rfl, by decide⟩
theorem kX10_set_84 : xCS mX10_set 84 mX10_isBelow 2 := ⟨xC0.mk eX10_isBelow (Nat.le_of_ble_eq_true rfl) (Nat.le_of_ble_eq_true rfl), xw430, xw431⟩
theorem kX10_set_166 : xCV mX10_set 166 mX1_isSet 1 1 := ⟨xC0.mk eX1_isSet (Nat.le_of_ble_eq_true rfl) (Nat.le_of_ble_eq_true rfl), xw698, xw699, xw700, rfl, rfl, by decide⟩
theorem kX10_set_194 : xCV mX10_set 194 mX2_spotFor 3 2 := ⟨xC0.mk eX2_spotFor (Nat.le_of_ble_eq_true rfl) (Nat.le_of_ble_eq_true rfl), xw749, xw750, xw751, rfl, rfl, by decide⟩
theorem kX10_set_198 : xCV mX10_set 198 mX8_isFull 0 8 := ⟨xC0.mk eX8_isFull (Nat.le_of_ble_eq_true rfl) (Nat.le_of_ble_eq_true rfl), xw822, xw823, xw824, rfl, rfl, by decide⟩
theorem kX10_set_201 : xCV mX10_set 201 mX8_beginDeed 0 8 := ⟨xC0.mk eX8_beginDeed (Nat.le_of_ble_eq_true rfl) (Nat.le_of_ble_eq_true rfl), xw826, xw827, xw828, rfl, rfl, by decide⟩
theorem kX10_set_207 : xCV mX10_set 207 mX1_pageOf 1 1 := ⟨xC0.mk eX1_pageOf (Nat.le_of_ble_eq_true rfl) (Nat.le_of_ble_eq_true rfl), xw832, xw707, xw708, rfl, rfl, by decide⟩
theorem kX10_lift_84 : xCS mX10_lift 84 mX10_isBelow 2 := ⟨xC0.mk eX10_isBelow (Nat.le_of_ble_eq_true rfl) (Nat.le_of_ble_eq_true rfl), xw430, xw431⟩
theorem kX10_lift_166 : xCV mX10_lift 166 mX1_isSet 1 1 := ⟨xC0.mk eX1_isSet (Nat.le_of_ble_eq_true rfl) (Nat.le_of_ble_eq_true rfl), xw698, xw699, xw700, rfl, rfl, by decide⟩
theorem kX10_lift_198 : xCV mX10_lift 198 mX8_isFull 0 8 := ⟨xC0.mk eX8_isFull (Nat.le_of_ble_eq_true rfl) (Nat.le_of_ble_eq_true rfl), xw822, xw823, xw824, rfl, rfl, by decide⟩
theorem kX10_lift_201 : xCV mX10_lift 201 mX8_beginDeed 0 8 := ⟨xC0.mk eX8_beginDeed (Nat.le_of_ble_eq_true rfl) (Nat.le_of_ble_eq_true rfl), xw826, xw827, xw828, rfl, rfl, by decide⟩
theorem kX10_lift_210 : xCV mX10_lift 210 mX1_pages 0 1 := ⟨xC0.mk eX1_pages (Nat.le_of_ble_eq_true rfl) (Nat.le_of_ble_eq_true rfl), xw837, xw754, xw755, rfl, rfl, by decide⟩
theorem kX10_all_84 : xCS mX10_all 84 mX10_isBelow 2 := ⟨xC0.mk eX10_isBelow (Nat.le_of_ble_eq_true rfl) (Nat.le_of_ble_eq_true rfl), xw430, xw431⟩
theorem kX10_all_141 : xCV mX10_all 141 mX10_hasNoSheet 0 10 := ⟨xC0.mk eX10_hasNoSheet (Nat.le_of_ble_eq_true rfl) (Nat.le_of_ble_eq_true rfl), xw644, xw646, xw12, rfl, rfl, by decide⟩
theorem kX10_all_198 : xCV mX10_all 198 mX8_isFull 0 8 := ⟨xC0.mk eX8_isFull (Nat.le_of_ble_eq_true rfl) (Nat.le_of_ble_eq_true rfl), xw822, xw823, xw824, rfl, rfl, by decide⟩
theorem kX10_all_201 : xCV mX10_all 201 mX8_beginDeed 0 8 := ⟨xC0.mk eX8_beginDeed (Nat.le_of_ble_eq_true rfl) (Nat.le_of_ble_eq_true rfl), xw826, xw827, xw828, rfl, rfl, by decide⟩
theorem kX10_all_213 : xCV mX10_all 213 mX2_setAllAnew 3 2 := ⟨xC0.mk eX2_setAllAnew (Nat.le_of_ble_eq_true rfl) (Nat.le_of_ble_eq_true rfl), xw842, xw843, xw844, rfl, rfl, by decide⟩
theorem kX10_all_210 : xCV mX10_all 210 mX1_pages 0 1 := ⟨xC0.mk eX1_pages (Nat.le_of_ble_eq_true rfl) (Nat.le_of_ble_eq_true rfl), xw837, xw754, xw755, rfl, rfl, by decide⟩
theorem kX10_rule_84 : xCS mX10_rule 84 mX10_isBelow 2 := ⟨xC0.mk eX10_isBelow (Nat.le_of_ble_eq_true rfl) (Nat.le_of_ble_eq_true rfl), xw430, xw431⟩
theorem kX10_rule_141 : xCV mX10_rule 141 mX10_hasNoSheet 0 10 := ⟨xC0.mk eX10_hasNoSheet (Nat.le_of_ble_eq_true rfl) (Nat.le_of_ble_eq_true rfl), xw644, xw646, xw12, rfl, rfl, by decide⟩
theorem kX10_rule_198 : xCV mX10_rule 198 mX8_isFull 0 8 := ⟨xC0.mk eX8_isFull (Nat.le_of_ble_eq_true rfl) (Nat.le_of_ble_eq_true rfl), xw822, xw823, xw824, rfl, rfl, by decide⟩
theorem kX10_rule_201 : xCV mX10_rule 201 mX8_beginDeed 0 8 := ⟨xC0.mk eX8_beginDeed (Nat.le_of_ble_eq_true rfl) (Nat.le_of_ble_eq_true rfl), xw826, xw827, xw828, rfl, rfl, by decide⟩
theorem kX10_undo_223 : xCV mX10_undo 223 mX8_goBackTo 1 8 := ⟨xC0.mk eX8_goBackTo (Nat.le_of_ble_eq_true rfl) (Nat.le_of_ble_eq_true rfl), xw867, xw868, xw869, rfl, rfl, by decide⟩
theorem kX10_keep_84 : xCS mX10_keep 84 mX10_isBelow 2 := ⟨xC0.mk eX10_isBelow (Nat.le_of_ble_eq_true rfl) (Nat.le_of_ble_eq_true rfl), xw430, xw431⟩
theorem kX10_keep_141 : xCV mX10_keep 141 mX10_hasNoSheet 0 10 := ⟨xC0.mk eX10_hasNoSheet (Nat.le_of_ble_eq_true rfl) (Nat.le_of_ble_eq_true rfl), xw644, xw646, xw12, rfl, rfl, by decide⟩
theorem kX10_keep_226 : xCV mX10_keep 226 mX8_takeOver 1 8 := ⟨xC0.mk eX8_takeOver (Nat.le_of_ble_eq_true rfl) (Nat.le_of_ble_eq_true rfl), xw875, xw876, xw877, rfl, rfl, by decide⟩
theorem kX10_on_84 : xCS mX10_on 84 mX10_isBelow 2 := ⟨xC0.mk eX10_isBelow (Nat.le_of_ble_eq_true rfl) (Nat.le_of_ble_eq_true rfl), xw430, xw431⟩
theorem kX10_on_88 : xCV mX10_on 88 mX10_refuse 1 10 := ⟨xC0.mk eX10_refuse (Nat.le_of_ble_eq_true rfl) (Nat.le_of_ble_eq_true rfl), xw433, xw435, xw0, rfl, rfl, by decide⟩
theorem kX10_on_226 : xCV mX10_on 226 mX8_takeOver 1 8 := ⟨xC0.mk eX8_takeOver (Nat.le_of_ble_eq_true rfl) (Nat.le_of_ble_eq_true rfl), xw875, xw876, xw877, rfl, rfl, by decide⟩
theorem kX10_free_229 : xCV mX10_free 229 mX10_isPage 1 10 := ⟨xC0.mk eX10_isPage (Nat.le_of_ble_eq_true rfl) (Nat.le_of_ble_eq_true rfl), xw887, xw889, xw22, rfl, rfl, by decide⟩
theorem kX10_free_84 : xCS mX10_free 84 mX10_isBelow 2 := ⟨xC0.mk eX10_isBelow (Nat.le_of_ble_eq_true rfl) (Nat.le_of_ble_eq_true rfl), xw430, xw431⟩
theorem kX10_free_236 : xCV mX10_free 236 mX4_look 3 4 := ⟨xC0.mk eX4_look (Nat.le_of_ble_eq_true rfl) (Nat.le_of_ble_eq_true rfl), xw891, xw760, xw761, rfl, rfl, by decide⟩
theorem kX10_free_242 : xCV mX10_free 242 mX4_part 2 4 := ⟨xC0.mk eX4_part (Nat.le_of_ble_eq_true rfl) (Nat.le_of_ble_eq_true rfl), xw892, xw893, xw894, rfl, rfl, by decide⟩
theorem kX10_free_106 : xCV mX10_free 106 mX10_tell 1 10 := ⟨xC0.mk eX10_tell (Nat.le_of_ble_eq_true rfl) (Nat.le_of_ble_eq_true rfl), xw455, xw457, xw1, rfl, rfl, by decide⟩
theorem kX10_seen_229 : xCV mX10_seen 229 mX10_isPage 1 10 := ⟨xC0.mk eX10_isPage (Nat.le_of_ble_eq_true rfl) (Nat.le_of_ble_eq_true rfl), xw887, xw889, xw22, rfl, rfl, by decide⟩
theorem kX10_seen_84 : xCS mX10_seen 84 mX10_isBelow 2 := ⟨xC0.mk eX10_isBelow (Nat.le_of_ble_eq_true rfl) (Nat.le_of_ble_eq_true rfl), xw430, xw431⟩
theorem kX10_seen_249 : xCV mX10_seen 249 mX10_takesPlace 4 10 := ⟨xC0.mk eX10_takesPlace (Nat.le_of_ble_eq_true rfl) (Nat.le_of_ble_eq_true rfl), xw900, xw902, xw23, rfl, rfl, by decide⟩
theorem kX10_seen_253 : xCV mX10_seen 253 mX10_pointSeen 3 10 := ⟨xC0.mk eX10_pointSeen (Nat.le_of_ble_eq_true rfl) (Nat.le_of_ble_eq_true rfl), xw909, xw911, xw24, rfl, rfl, by decide⟩
theorem kX10_point_84 : xCS mX10_point 84 mX10_isBelow 2 := ⟨xC0.mk eX10_isBelow (Nat.le_of_ble_eq_true rfl) (Nat.le_of_ble_eq_true rfl), xw430, xw431⟩
theorem kX10_point_166 : xCV mX10_point 166 mX1_isSet 1 1 := ⟨xC0.mk eX1_isSet (Nat.le_of_ble_eq_true rfl) (Nat.le_of_ble_eq_true rfl), xw698, xw699, xw700, rfl, rfl, by decide⟩
theorem kX10_point_269 : xCV mX10_point 269 mX1_isTurned 1 1 := ⟨xC0.mk eX1_isTurned (Nat.le_of_ble_eq_true rfl) (Nat.le_of_ble_eq_true rfl), xw904, xw719, xw720, rfl, rfl, by decide⟩
theorem kX10_point_272 : xCV mX10_point 272 mX1_xOf 1 1 := ⟨xC0.mk eX1_xOf (Nat.le_of_ble_eq_true rfl) (Nat.le_of_ble_eq_true rfl), xw905, xw711, xw712, rfl, rfl, by decide⟩
theorem kX10_point_278 : xCV mX10_point 278 mX1_yOf 1 1 := ⟨xC0.mk eX1_yOf (Nat.le_of_ble_eq_true rfl) (Nat.le_of_ble_eq_true rfl), xw907, xw715, xw716, rfl, rfl, by decide⟩
theorem kX10_point_207 : xCV mX10_point 207 mX1_pageOf 1 1 := ⟨xC0.mk eX1_pageOf (Nat.le_of_ble_eq_true rfl) (Nat.le_of_ble_eq_true rfl), xw832, xw707, xw708, rfl, rfl, by decide⟩
theorem kX10_used_229 : xCV mX10_used 229 mX10_isPage 1 10 := ⟨xC0.mk eX10_isPage (Nat.le_of_ble_eq_true rfl) (Nat.le_of_ble_eq_true rfl), xw887, xw889, xw22, rfl, rfl, by decide⟩
theorem kX10_used_281 : xCV mX10_used 281 mX7_placesTaken 2 7 := ⟨xC0.mk eX7_placesTaken (Nat.le_of_ble_eq_true rfl) (Nat.le_of_ble_eq_true rfl), xw926, xw927, xw928, rfl, rfl, by decide⟩
theorem kX10_takes_229 : xCV mX10_takes 229 mX10_isPage 1 10 := ⟨xC0.mk eX10_isPage (Nat.le_of_ble_eq_true rfl) (Nat.le_of_ble_eq_true rfl), xw887, xw889, xw22, rfl, rfl, by decide⟩
theorem kX10_takes_236 : xCV mX10_takes 236 mX4_look 3 4 := ⟨xC0.mk eX4_look (Nat.le_of_ble_eq_true rfl) (Nat.le_of_ble_eq_true rfl), xw891, xw760, xw761, rfl, rfl, by decide⟩
theorem kX10_takes_166 : xCV mX10_takes 166 mX1_isSet 1 1 := ⟨xC0.mk eX1_isSet (Nat.le_of_ble_eq_true rfl) (Nat.le_of_ble_eq_true rfl), xw698, xw699, xw700, rfl, rfl, by decide⟩
theorem kX10_takes_285 : xCV mX10_takes 285 mX4_bestSpot 2 4 := ⟨xC0.mk eX4_bestSpot (Nat.le_of_ble_eq_true rfl) (Nat.le_of_ble_eq_true rfl), xw937, xw791, xw792, rfl, rfl, by decide⟩
theorem kX10_takes_289 : xCV mX10_takes 289 mX4_greatest 0 4 := ⟨xC0.mk eX4_greatest (Nat.le_of_ble_eq_true rfl) (Nat.le_of_ble_eq_true rfl), xw938, xw939, xw940, rfl, rfl, by decide⟩
theorem kX10_would_84 : xCS mX10_would 84 mX10_isBelow 2 := ⟨xC0.mk eX10_isBelow (Nat.le_of_ble_eq_true rfl) (Nat.le_of_ble_eq_true rfl), xw430, xw431⟩
theorem kX10_would_141 : xCV mX10_would 141 mX10_hasNoSheet 0 10 := ⟨xC0.mk eX10_hasNoSheet (Nat.le_of_ble_eq_true rfl) (Nat.le_of_ble_eq_true rfl), xw644, xw646, xw12, rfl, rfl, by decide⟩
theorem kX10_would_213 : xCV mX10_would 213 mX2_setAllAnew 3 2 := ⟨xC0.mk eX2_setAllAnew (Nat.le_of_ble_eq_true rfl) (Nat.le_of_ble_eq_true rfl), xw842, xw843, xw844, rfl, rfl, by decide⟩
theorem kX10_would_166 : xCV mX10_would 166 mX1_isSet 1 1 := ⟨xC0.mk eX1_isSet (Nat.le_of_ble_eq_true rfl) (Nat.le_of_ble_eq_true rfl), xw698, xw699, xw700, rfl, rfl, by decide⟩
theorem kX10_would_210 : xCV mX10_would 210 mX1_pages 0 1 := ⟨xC0.mk eX1_pages (Nat.le_of_ble_eq_true rfl) (Nat.le_of_ble_eq_true rfl), xw837, xw754, xw755, rfl, rfl, by decide⟩
theorem kX10_best_141 : xCV mX10_best 141 mX10_hasNoSheet 0 10 := ⟨xC0.mk eX10_hasNoSheet (Nat.le_of_ble_eq_true rfl) (Nat.le_of_ble_eq_true rfl), xw644, xw646, xw12, rfl, rfl, by decide⟩
theorem kX10_best_213 : xCV mX10_best 213 mX2_setAllAnew 3 2 := ⟨xC0.mk eX2_setAllAnew (Nat.le_of_ble_eq_true rfl) (Nat.le_of_ble_eq_true rfl), xw842, xw843, xw844, rfl, rfl, by decide⟩
theorem kX10_best_292 : xCV mX10_best 292 mX10_shortcoming 1 10 := ⟨xC0.mk eX10_shortcoming (Nat.le_of_ble_eq_true rfl) (Nat.le_of_ble_eq_true rfl), xw950, xw952, xw25, rfl, rfl, by decide⟩
theorem kX10_best_210 : xCV mX10_best 210 mX1_pages 0 1 := ⟨xC0.mk eX1_pages (Nat.le_of_ble_eq_true rfl) (Nat.le_of_ble_eq_true rfl), xw837, xw754, xw755, rfl, rfl, by decide⟩
theorem kX10_lots_141 : xCV mX10_lots 141 mX10_hasNoSheet 0 10 := ⟨xC0.mk eX10_hasNoSheet (Nat.le_of_ble_eq_true rfl) (Nat.le_of_ble_eq_true rfl), xw644, xw646, xw12, rfl, rfl, by decide⟩
theorem kX10_lots_201 : xCV mX10_lots 201 mX8_beginDeed 0 8 := ⟨xC0.mk eX8_beginDeed (Nat.le_of_ble_eq_true rfl) (Nat.le_of_ble_eq_true rfl), xw826, xw827, xw828, rfl, rfl, by decide⟩
theorem kX10_lots_301 : xCV mX10_lots 301 mX10_doLot 1 10 := ⟨xC0.mk eX10_doLot (Nat.le_of_ble_eq_true rfl) (Nat.le_of_ble_eq_true rfl), xw965, xw967, xw26, rfl, rfl, by decide⟩
theorem kX10_lots_304 : xCV mX10_lots 304 mX1_framesSet 0 1 := ⟨xC0.mk eX1_framesSet (Nat.le_of_ble_eq_true rfl) (Nat.le_of_ble_eq_true rfl), xw954, xw955, xw956, rfl, rfl, by decide⟩
theorem kX10_count_304 : xCV mX10_count 304 mX1_framesSet 0 1 := ⟨xC0.mk eX1_framesSet (Nat.le_of_ble_eq_true rfl) (Nat.le_of_ble_eq_true rfl), xw954, xw955, xw956, rfl, rfl, by decide⟩
theorem kX10_count_210 : xCV mX10_count 210 mX1_pages 0 1 := ⟨xC0.mk eX1_pages (Nat.le_of_ble_eq_true rfl) (Nat.le_of_ble_eq_true rfl), xw837, xw754, xw755, rfl, rfl, by decide⟩
theorem kX10_count_310 : xCV mX10_count 310 mX10_placesTakenOnAllPages 0 10 := ⟨xC0.mk eX10_placesTakenOnAllPages (Nat.le_of_ble_eq_true rfl) (Nat.le_of_ble_eq_true rfl), xw977, xw979, xw27, rfl, rfl, by decide⟩
theorem kX10_count_313 : xCV mX10_count 313 mX10_freeOnAllPages 0 10 := ⟨xC0.mk eX10_freeOnAllPages (Nat.le_of_ble_eq_true rfl) (Nat.le_of_ble_eq_true rfl), xw981, xw983, xw28, rfl, rfl, by decide⟩
theorem kX10_count_316 : xCV mX10_count 316 mX1_framesTurned 0 1 := ⟨xC0.mk eX1_framesTurned (Nat.le_of_ble_eq_true rfl) (Nat.le_of_ble_eq_true rfl), xw985, xw986, xw987, rfl, rfl, by decide⟩
theorem kX10_count_319 : xCV mX10_count 319 mX10_rowsThere 0 10 := ⟨xC0.mk eX10_rowsThere (Nat.le_of_ble_eq_true rfl) (Nat.le_of_ble_eq_true rfl), xw989, xw991, xw29, rfl, rfl, by decide⟩
theorem kX10_count_322 : xCV mX10_count 322 mX10_textsThere 0 10 := ⟨xC0.mk eX10_textsThere (Nat.le_of_ble_eq_true rfl) (Nat.le_of_ble_eq_true rfl), xw993, xw995, xw30, rfl, rfl, by decide⟩
theorem kX10_count_325 : xCV mX10_count 325 mX10_sheetsKept 0 10 := ⟨xC0.mk eX10_sheetsKept (Nat.le_of_ble_eq_true rfl) (Nat.le_of_ble_eq_true rfl), xw997, xw999, xw31, rfl, rfl, by decide⟩
theorem kX10_digest_332 : xCV mX10_digest 332 mX10_count 1 10 := ⟨xC0.mk eX10_count (Nat.le_of_ble_eq_true rfl) (Nat.le_of_ble_eq_true rfl), xw1015, xw974, xw975, rfl, rfl, by decide⟩
theorem kX10_digest_335 : xCV mX10_digest 335 mX10_withFrame 2 10 := ⟨xC0.mk eX10_withFrame (Nat.le_of_ble_eq_true rfl) (Nat.le_of_ble_eq_true rfl), xw1016, xw1018, xw32, rfl, rfl, by decide⟩
theorem kX10_isPage_210 : xCV mX10_isPage 210 mX1_pages 0 1 := ⟨xC0.mk eX1_pages (Nat.le_of_ble_eq_true rfl) (Nat.le_of_ble_eq_true rfl), xw837, xw754, xw755, rfl, rfl, by decide⟩
theorem kX10_isPage_84 : xCS mX10_isPage 84 mX10_isBelow 2 := ⟨xC0.mk eX10_isBelow (Nat.le_of_ble_eq_true rfl) (Nat.le_of_ble_eq_true rfl), xw430, xw431⟩
theorem kX10_takesPlace_166 : xCV mX10_takesPlace 166 mX1_isSet 1 1 := ⟨xC0.mk eX1_isSet (Nat.le_of_ble_eq_true rfl) (Nat.le_of_ble_eq_true rfl), xw698, xw699, xw700, rfl, rfl, by decide⟩
theorem kX10_takesPlace_207 : xCV mX10_takesPlace 207 mX1_pageOf 1 1 := ⟨xC0.mk eX1_pageOf (Nat.le_of_ble_eq_true rfl) (Nat.le_of_ble_eq_true rfl), xw832, xw707, xw708, rfl, rfl, by decide⟩
theorem kX10_takesPlace_269 : xCV mX10_takesPlace 269 mX1_isTurned 1 1 := ⟨xC0.mk eX1_isTurned (Nat.le_of_ble_eq_true rfl) (Nat.le_of_ble_eq_true rfl), xw904, xw719, xw720, rfl, rfl, by decide⟩
theorem kX10_takesPlace_272 : xCV mX10_takesPlace 272 mX1_xOf 1 1 := ⟨xC0.mk eX1_xOf (Nat.le_of_ble_eq_true rfl) (Nat.le_of_ble_eq_true rfl), xw905, xw711, xw712, rfl, rfl, by decide⟩
theorem kX10_takesPlace_339 : xCV mX10_takesPlace 339 mX0_needsAcross 1 0 := ⟨xC0.mk eX0_needsAcross (Nat.le_of_ble_eq_true rfl) (Nat.le_of_ble_eq_true rfl), xw906, xw687, xw688, rfl, rfl, by decide⟩
theorem kX10_takesPlace_84 : xCS mX10_takesPlace 84 mX10_isBelow 2 := ⟨xC0.mk eX10_isBelow (Nat.le_of_ble_eq_true rfl) (Nat.le_of_ble_eq_true rfl), xw430, xw431⟩
theorem kX10_takesPlace_278 : xCV mX10_takesPlace 278 mX1_yOf 1 1 := ⟨xC0.mk eX1_yOf (Nat.le_of_ble_eq_true rfl) (Nat.le_of_ble_eq_true rfl), xw907, xw715, xw716, rfl, rfl, by decide⟩
theorem kX10_takesPlace_343 : xCV mX10_takesPlace 343 mX0_needsDown 1 0 := ⟨xC0.mk eX0_needsDown (Nat.le_of_ble_eq_true rfl) (Nat.le_of_ble_eq_true rfl), xw908, xw691, xw692, rfl, rfl, by decide⟩
theorem kX10_pointSeen_272 : xCV mX10_pointSeen 272 mX1_xOf 1 1 := ⟨xC0.mk eX1_xOf (Nat.le_of_ble_eq_true rfl) (Nat.le_of_ble_eq_true rfl), xw905, xw711, xw712, rfl, rfl, by decide⟩
theorem kX10_pointSeen_278 : xCV mX10_pointSeen 278 mX1_yOf 1 1 := ⟨xC0.mk eX1_yOf (Nat.le_of_ble_eq_true rfl) (Nat.le_of_ble_eq_true rfl), xw907, xw715, xw716, rfl, rfl, by decide⟩
theorem kX10_pointSeen_269 : xCV mX10_pointSeen 269 mX1_isTurned 1 1 := ⟨xC0.mk eX1_isTurned (Nat.le_of_ble_eq_true rfl) (Nat.le_of_ble_eq_true rfl), xw904, xw719, xw720, rfl, rfl, by decide⟩
theorem kX10_pointSeen_346 : xCS mX10_pointSeen 346 mX10_nearest 2 := ⟨xC0.mk eX10_nearest (Nat.le_of_ble_eq_true rfl) (Nat.le_of_ble_eq_true rfl), xw913, xw914⟩
theorem kX10_nearest_349 : xMa mX10_nearest 349 Lib.Math.min.name Lib.Math.min.code 2 := ⟨xw916, xw442, xw102, xw443, (Nat.le_of_ble_eq_true rfl), (Nat.le_of_ble_eq_true rfl)⟩
theorem kX10_nearest_352 : xMa mX10_nearest 352 Lib.Math.max.name Lib.Math.max.code 2 := ⟨xw917, xw445, xw102, xw446, (Nat.le_of_ble_eq_true rfl), (Nat.le_of_ble_eq_true rfl)⟩
theorem kX10_shortcoming_210 : xCV mX10_shortcoming 210 mX1_pages 0 1 := ⟨xC0.mk eX1_pages (Nat.le_of_ble_eq_true rfl) (Nat.le_of_ble_eq_true rfl), xw837, xw754, xw755, rfl, rfl, by decide⟩
theorem kX10_shortcoming_281 : xCV mX10_shortcoming 281 mX7_placesTaken 2 7 := ⟨xC0.mk eX7_placesTaken (Nat.le_of_ble_eq_true rfl) (Nat.le_of_ble_eq_true rfl), xw926, xw927, xw928, rfl, rfl, by decide⟩
theorem kX10_shortcoming_304 : xCV mX10_shortcoming 304 mX1_framesSet 0 1 := ⟨xC0.mk eX1_framesSet (Nat.le_of_ble_eq_true rfl) (Nat.le_of_ble_eq_true rfl), xw954, xw955, xw956, rfl, rfl, by decide⟩
theorem kX10_doLot_141 : xCV mX10_doLot 141 mX10_hasNoSheet 0 10 := ⟨xC0.mk eX10_hasNoSheet (Nat.le_of_ble_eq_true rfl) (Nat.le_of_ble_eq_true rfl), xw644, xw646, xw12, rfl, rfl, by decide⟩
theorem kX10_doLot_166 : xCV mX10_doLot 166 mX1_isSet 1 1 := ⟨xC0.mk eX1_isSet (Nat.le_of_ble_eq_true rfl) (Nat.le_of_ble_eq_true rfl), xw698, xw699, xw700, rfl, rfl, by decide⟩
theorem kX10_doLot_194 : xCV mX10_doLot 194 mX2_spotFor 3 2 := ⟨xC0.mk eX2_spotFor (Nat.le_of_ble_eq_true rfl) (Nat.le_of_ble_eq_true rfl), xw749, xw750, xw751, rfl, rfl, by decide⟩
theorem kX10_placesTakenOnAllPages_210 : xCV mX10_placesTakenOnAllPages 210 mX1_pages 0 1 := ⟨xC0.mk eX1_pages (Nat.le_of_ble_eq_true rfl) (Nat.le_of_ble_eq_true rfl), xw837, xw754, xw755, rfl, rfl, by decide⟩
theorem kX10_placesTakenOnAllPages_281 : xCV mX10_placesTakenOnAllPages 281 mX7_placesTaken 2 7 := ⟨xC0.mk eX7_placesTaken (Nat.le_of_ble_eq_true rfl) (Nat.le_of_ble_eq_true rfl), xw926, xw927, xw928, rfl, rfl, by decide⟩
theorem kX10_freeOnAllPages_210 : xCV mX10_freeOnAllPages 210 mX1_pages 0 1 := ⟨xC0.mk eX1_pages (Nat.le_of_ble_eq_true rfl) (Nat.le_of_ble_eq_true rfl), xw837, xw754, xw755, rfl, rfl, by decide⟩
theorem kX10_freeOnAllPages_236 : xCV mX10_freeOnAllPages 236 mX4_look 3 4 := ⟨xC0.mk eX4_look (Nat.le_of_ble_eq_true rfl) (Nat.le_of_ble_eq_true rfl), xw891, xw760, xw761, rfl, rfl, by decide⟩
theorem kX10_rowsThere_96 : xCV mX10_rowsThere 96 mX5_isMissing 0 5 := ⟨xC0.mk eX5_isMissing (Nat.le_of_ble_eq_true rfl) (Nat.le_of_ble_eq_true rfl), xw451, xw452, xw453, rfl, rfl, by decide⟩
theorem kX10_textsThere_123 : xCV mX10_textsThere 123 mX9_isMissing 0 9 := ⟨xC0.mk eX9_isMissing (Nat.le_of_ble_eq_true rfl) (Nat.le_of_ble_eq_true rfl), xw500, xw501, xw502, rfl, rfl, by decide⟩
theorem kX10_withFrame_158 : xCV mX10_withFrame 158 mX0_part 1 0 := ⟨xC0.mk eX0_part (Nat.le_of_ble_eq_true rfl) (Nat.le_of_ble_eq_true rfl), xw682, xw683, xw684, rfl, rfl, by decide⟩
theorem kX10_withFrame_166 : xCV mX10_withFrame 166 mX1_isSet 1 1 := ⟨xC0.mk eX1_isSet (Nat.le_of_ble_eq_true rfl) (Nat.le_of_ble_eq_true rfl), xw698, xw699, xw700, rfl, rfl, by decide⟩
theorem kX10_withFrame_170 : xCV mX10_withFrame 170 mX1_part 2 1 := ⟨xC0.mk eX1_part (Nat.le_of_ble_eq_true rfl) (Nat.le_of_ble_eq_true rfl), xw702, xw703, xw704, rfl, rfl, by decide⟩
theorem kX11_init_1 : Cond.methodLink RX11 1 Lib.objectInit ∈ xwl ∧ Cond.instanceMethod Lib.objectInit ∈ xwl ∧ Cond.code Lib.objectInit ⟨#[0xb1]⟩ 1 none ∈ xwl := ⟨xw1025, xw114, xw115⟩
theorem kX11_findings_75 : xCS mX11_findings 75 mX11_in 3 := ⟨xC0.mk eX11_in (Nat.le_of_ble_eq_true rfl) (Nat.le_of_ble_eq_true rfl), xw1174, xw1175⟩
theorem kX11_isRow_75 : xCS mX11_isRow 75 mX11_in 3 := ⟨xC0.mk eX11_in (Nat.le_of_ble_eq_true rfl) (Nat.le_of_ble_eq_true rfl), xw1174, xw1175⟩
theorem kX11_row_79 : xCS mX11_row 79 mX11_isRow 1 := ⟨xC0.mk eX11_isRow (Nat.le_of_ble_eq_true rfl) (Nat.le_of_ble_eq_true rfl), xw1181, xw1182⟩
theorem kX11_row_83 : xCV mX11_row 83 mX11_found 1 11 := ⟨xC0.mk eX11_found (Nat.le_of_ble_eq_true rfl) (Nat.le_of_ble_eq_true rfl), xw1184, xw1186, xw33, rfl, rfl, by decide⟩
theorem kX11_lay_79 : xCS mX11_lay 79 mX11_isRow 1 := ⟨xC0.mk eX11_isRow (Nat.le_of_ble_eq_true rfl) (Nat.le_of_ble_eq_true rfl), xw1181, xw1182⟩
theorem kX11_lay_83 : xCV mX11_lay 83 mX11_found 1 11 := ⟨xC0.mk eX11_found (Nat.le_of_ble_eq_true rfl) (Nat.le_of_ble_eq_true rfl), xw1184, xw1186, xw33, rfl, rfl, by decide⟩
theorem kX11_lay_75 : xCS mX11_lay 75 mX11_in 3 := ⟨xC0.mk eX11_in (Nat.le_of_ble_eq_true rfl) (Nat.le_of_ble_eq_true rfl), xw1174, xw1175⟩
theorem kX11_lay_87 : xCV mX11_lay 87 mX11_rowAt 2 11 := ⟨xC0.mk eX11_rowAt (Nat.le_of_ble_eq_true rfl) (Nat.le_of_ble_eq_true rfl), xw1192, xw1194, xw34, rfl, rfl, by decide⟩
theorem kX11_lay_91 : xCV mX11_lay 91 mX11_tells 2 11 := ⟨xC0.mk eX11_tells (Nat.le_of_ble_eq_true rfl) (Nat.le_of_ble_eq_true rfl), xw1196, xw1198, xw35, rfl, rfl, by decide⟩
theorem kX11_at_79 : xCS mX11_at 79 mX11_isRow 1 := ⟨xC0.mk eX11_isRow (Nat.le_of_ble_eq_true rfl) (Nat.le_of_ble_eq_true rfl), xw1181, xw1182⟩
theorem kX11_at_83 : xCV mX11_at 83 mX11_found 1 11 := ⟨xC0.mk eX11_found (Nat.le_of_ble_eq_true rfl) (Nat.le_of_ble_eq_true rfl), xw1184, xw1186, xw33, rfl, rfl, by decide⟩
theorem kX11_at_75 : xCS mX11_at 75 mX11_in 3 := ⟨xC0.mk eX11_in (Nat.le_of_ble_eq_true rfl) (Nat.le_of_ble_eq_true rfl), xw1174, xw1175⟩
theorem kX11_at_87 : xCV mX11_at 87 mX11_rowAt 2 11 := ⟨xC0.mk eX11_rowAt (Nat.le_of_ble_eq_true rfl) (Nat.le_of_ble_eq_true rfl), xw1192, xw1194, xw34, rfl, rfl, by decide⟩
theorem kX11_at_91 : xCV mX11_at 91 mX11_tells 2 11 := ⟨xC0.mk eX11_tells (Nat.le_of_ble_eq_true rfl) (Nat.le_of_ble_eq_true rfl), xw1196, xw1198, xw35, rfl, rfl, by decide⟩
theorem kX11_tear_79 : xCS mX11_tear 79 mX11_isRow 1 := ⟨xC0.mk eX11_isRow (Nat.le_of_ble_eq_true rfl) (Nat.le_of_ble_eq_true rfl), xw1181, xw1182⟩
theorem kX11_tear_83 : xCV mX11_tear 83 mX11_found 1 11 := ⟨xC0.mk eX11_found (Nat.le_of_ble_eq_true rfl) (Nat.le_of_ble_eq_true rfl), xw1184, xw1186, xw33, rfl, rfl, by decide⟩
theorem kX11_copy_79 : xCS mX11_copy 79 mX11_isRow 1 := ⟨xC0.mk eX11_isRow (Nat.le_of_ble_eq_true rfl) (Nat.le_of_ble_eq_true rfl), xw1181, xw1182⟩
theorem kX11_copy_83 : xCV mX11_copy 83 mX11_found 1 11 := ⟨xC0.mk eX11_found (Nat.le_of_ble_eq_true rfl) (Nat.le_of_ble_eq_true rfl), xw1184, xw1186, xw33, rfl, rfl, by decide⟩
theorem kX11_copy_87 : xCV mX11_copy 87 mX11_rowAt 2 11 := ⟨xC0.mk eX11_rowAt (Nat.le_of_ble_eq_true rfl) (Nat.le_of_ble_eq_true rfl), xw1192, xw1194, xw34, rfl, rfl, by decide⟩
theorem kX11_mean_79 : xCS mX11_mean 79 mX11_isRow 1 := ⟨xC0.mk eX11_isRow (Nat.le_of_ble_eq_true rfl) (Nat.le_of_ble_eq_true rfl), xw1181, xw1182⟩
theorem kX11_mean_83 : xCV mX11_mean 83 mX11_found 1 11 := ⟨xC0.mk eX11_found (Nat.le_of_ble_eq_true rfl) (Nat.le_of_ble_eq_true rfl), xw1184, xw1186, xw33, rfl, rfl, by decide⟩
theorem kX11_mean_87 : xCV mX11_mean 87 mX11_rowAt 2 11 := ⟨xC0.mk eX11_rowAt (Nat.le_of_ble_eq_true rfl) (Nat.le_of_ble_eq_true rfl), xw1192, xw1194, xw34, rfl, rfl, by decide⟩
theorem kX11_mean_91 : xCV mX11_mean 91 mX11_tells 2 11 := ⟨xC0.mk eX11_tells (Nat.le_of_ble_eq_true rfl) (Nat.le_of_ble_eq_true rfl), xw1196, xw1198, xw35, rfl, rfl, by decide⟩
theorem kX11_isText_75 : xCS mX11_isText 75 mX11_in 3 := ⟨xC0.mk eX11_in (Nat.le_of_ble_eq_true rfl) (Nat.le_of_ble_eq_true rfl), xw1174, xw1175⟩
theorem kX11_text_94 : xCS mX11_text 94 mX11_isText 1 := ⟨xC0.mk eX11_isText (Nat.le_of_ble_eq_true rfl) (Nat.le_of_ble_eq_true rfl), xw1220, xw1221⟩
theorem kX11_text_83 : xCV mX11_text 83 mX11_found 1 11 := ⟨xC0.mk eX11_found (Nat.le_of_ble_eq_true rfl) (Nat.le_of_ble_eq_true rfl), xw1184, xw1186, xw33, rfl, rfl, by decide⟩
theorem kX11_put_94 : xCS mX11_put 94 mX11_isText 1 := ⟨xC0.mk eX11_isText (Nat.le_of_ble_eq_true rfl) (Nat.le_of_ble_eq_true rfl), xw1220, xw1221⟩
theorem kX11_put_83 : xCV mX11_put 83 mX11_found 1 11 := ⟨xC0.mk eX11_found (Nat.le_of_ble_eq_true rfl) (Nat.le_of_ble_eq_true rfl), xw1184, xw1186, xw33, rfl, rfl, by decide⟩
theorem kX11_put_75 : xCS mX11_put 75 mX11_in 3 := ⟨xC0.mk eX11_in (Nat.le_of_ble_eq_true rfl) (Nat.le_of_ble_eq_true rfl), xw1174, xw1175⟩
theorem kX11_blanks_100 : xCV mX11_blanks 100 mX11_byteAt 2 11 := ⟨xC0.mk eX11_byteAt (Nat.le_of_ble_eq_true rfl) (Nat.le_of_ble_eq_true rfl), xw1239, xw1241, xw38, rfl, rfl, by decide⟩
theorem kX11_isLetter_100 : xCV mX11_isLetter 100 mX11_byteAt 2 11 := ⟨xC0.mk eX11_byteAt (Nat.le_of_ble_eq_true rfl) (Nat.le_of_ble_eq_true rfl), xw1239, xw1241, xw38, rfl, rfl, by decide⟩
theorem kX11_isLetter_75 : xCS mX11_isLetter 75 mX11_in 3 := ⟨xC0.mk eX11_in (Nat.le_of_ble_eq_true rfl) (Nat.le_of_ble_eq_true rfl), xw1174, xw1175⟩
theorem kX11_isFigure_100 : xCV mX11_isFigure 100 mX11_byteAt 2 11 := ⟨xC0.mk eX11_byteAt (Nat.le_of_ble_eq_true rfl) (Nat.le_of_ble_eq_true rfl), xw1239, xw1241, xw38, rfl, rfl, by decide⟩
theorem kX11_isFigure_75 : xCS mX11_isFigure 75 mX11_in 3 := ⟨xC0.mk eX11_in (Nat.le_of_ble_eq_true rfl) (Nat.le_of_ble_eq_true rfl), xw1174, xw1175⟩
theorem kX11_next_103 : xCV mX11_next 103 mX11_blanks 1 11 := ⟨xC0.mk eX11_blanks (Nat.le_of_ble_eq_true rfl) (Nat.le_of_ble_eq_true rfl), xw1235, xw1237, xw37, rfl, rfl, by decide⟩
theorem kX11_next_113 : xCV mX11_next 113 mX11_isLetter 1 11 := ⟨xC0.mk eX11_isLetter (Nat.le_of_ble_eq_true rfl) (Nat.le_of_ble_eq_true rfl), xw1251, xw1253, xw41, rfl, rfl, by decide⟩
theorem kX11_next_116 : xCV mX11_next 116 mX11_isFigure 1 11 := ⟨xC0.mk eX11_isFigure (Nat.le_of_ble_eq_true rfl) (Nat.le_of_ble_eq_true rfl), xw1255, xw1257, xw42, rfl, rfl, by decide⟩
theorem kX11_next_100 : xCV mX11_next 100 mX11_byteAt 2 11 := ⟨xC0.mk eX11_byteAt (Nat.le_of_ble_eq_true rfl) (Nat.le_of_ble_eq_true rfl), xw1239, xw1241, xw38, rfl, rfl, by decide⟩
theorem kX11_word_100 : xCV mX11_word 100 mX11_byteAt 2 11 := ⟨xC0.mk eX11_byteAt (Nat.le_of_ble_eq_true rfl) (Nat.le_of_ble_eq_true rfl), xw1239, xw1241, xw38, rfl, rfl, by decide⟩
theorem kX11_number_125 : xCV mX11_number 125 mX11_next 1 11 := ⟨xC0.mk eX11_next (Nat.le_of_ble_eq_true rfl) (Nat.le_of_ble_eq_true rfl), xw1247, xw1249, xw40, rfl, rfl, by decide⟩
theorem kX11_number_75 : xCS mX11_number 75 mX11_in 3 := ⟨xC0.mk eX11_in (Nat.le_of_ble_eq_true rfl) (Nat.le_of_ble_eq_true rfl), xw1174, xw1175⟩
theorem kX11_number_128 : xCV mX11_number 128 mX11_fails 0 11 := ⟨xC0.mk eX11_fails (Nat.le_of_ble_eq_true rfl) (Nat.le_of_ble_eq_true rfl), xw1264, xw1266, xw44, rfl, rfl, by decide⟩
theorem kX11_ends_125 : xCV mX11_ends 125 mX11_next 1 11 := ⟨xC0.mk eX11_next (Nat.le_of_ble_eq_true rfl) (Nat.le_of_ble_eq_true rfl), xw1247, xw1249, xw40, rfl, rfl, by decide⟩
theorem kX11_ends_128 : xCV mX11_ends 128 mX11_fails 0 11 := ⟨xC0.mk eX11_fails (Nat.le_of_ble_eq_true rfl) (Nat.le_of_ble_eq_true rfl), xw1264, xw1266, xw44, rfl, rfl, by decide⟩
theorem kX11_readsPage_132 : xCV mX11_readsPage 132 mX11_number 3 11 := ⟨xC0.mk eX11_number (Nat.le_of_ble_eq_true rfl) (Nat.le_of_ble_eq_true rfl), xw1272, xw1274, xw46, rfl, rfl, by decide⟩
theorem kX11_readsPage_141 : xCV mX11_readsPage 141 mX11_ends 1 11 := ⟨xC0.mk eX11_ends (Nat.le_of_ble_eq_true rfl) (Nat.le_of_ble_eq_true rfl), xw1276, xw1278, xw47, rfl, rfl, by decide⟩
theorem kX11_readsBleed_128 : xCV mX11_readsBleed 128 mX11_fails 0 11 := ⟨xC0.mk eX11_fails (Nat.le_of_ble_eq_true rfl) (Nat.le_of_ble_eq_true rfl), xw1264, xw1266, xw44, rfl, rfl, by decide⟩
theorem kX11_readsBleed_132 : xCV mX11_readsBleed 132 mX11_number 3 11 := ⟨xC0.mk eX11_number (Nat.le_of_ble_eq_true rfl) (Nat.le_of_ble_eq_true rfl), xw1272, xw1274, xw46, rfl, rfl, by decide⟩
theorem kX11_readsBleed_141 : xCV mX11_readsBleed 141 mX11_ends 1 11 := ⟨xC0.mk eX11_ends (Nat.le_of_ble_eq_true rfl) (Nat.le_of_ble_eq_true rfl), xw1276, xw1278, xw47, rfl, rfl, by decide⟩
theorem kX11_readsFrame_128 : xCV mX11_readsFrame 128 mX11_fails 0 11 := ⟨xC0.mk eX11_fails (Nat.le_of_ble_eq_true rfl) (Nat.le_of_ble_eq_true rfl), xw1264, xw1266, xw44, rfl, rfl, by decide⟩
theorem kX11_readsFrame_132 : xCV mX11_readsFrame 132 mX11_number 3 11 := ⟨xC0.mk eX11_number (Nat.le_of_ble_eq_true rfl) (Nat.le_of_ble_eq_true rfl), xw1272, xw1274, xw46, rfl, rfl, by decide⟩
theorem kX11_readsFrame_141 : xCV mX11_readsFrame 141 mX11_ends 1 11 := ⟨xC0.mk eX11_ends (Nat.le_of_ble_eq_true rfl) (Nat.le_of_ble_eq_true rfl), xw1276, xw1278, xw47, rfl, rfl, by decide⟩
theorem kX11_readsOne_125 : xCV mX11_readsOne 125 mX11_next 1 11 := ⟨xC0.mk eX11_next (Nat.le_of_ble_eq_true rfl) (Nat.le_of_ble_eq_true rfl), xw1247, xw1249, xw40, rfl, rfl, by decide⟩
theorem kX11_readsOne_150 : xCV mX11_readsOne 150 mX11_word 1 11 := ⟨xC0.mk eX11_word (Nat.le_of_ble_eq_true rfl) (Nat.le_of_ble_eq_true rfl), xw1259, xw1261, xw43, rfl, rfl, by decide⟩
theorem kX11_readsOne_128 : xCV mX11_readsOne 128 mX11_fails 0 11 := ⟨xC0.mk eX11_fails (Nat.le_of_ble_eq_true rfl) (Nat.le_of_ble_eq_true rfl), xw1264, xw1266, xw44, rfl, rfl, by decide⟩
theorem kX11_readsOne_154 : xCV mX11_readsOne 154 mX11_readsPage 1 11 := ⟨xC0.mk eX11_readsPage (Nat.le_of_ble_eq_true rfl) (Nat.le_of_ble_eq_true rfl), xw1268, xw1270, xw45, rfl, rfl, by decide⟩
theorem kX11_readsOne_157 : xCV mX11_readsOne 157 mX11_readsBleed 1 11 := ⟨xC0.mk eX11_readsBleed (Nat.le_of_ble_eq_true rfl) (Nat.le_of_ble_eq_true rfl), xw1280, xw1282, xw48, rfl, rfl, by decide⟩
theorem kX11_readsOne_160 : xCV mX11_readsOne 160 mX11_readsFrame 2 11 := ⟨xC0.mk eX11_readsFrame (Nat.le_of_ble_eq_true rfl) (Nat.le_of_ble_eq_true rfl), xw1284, xw1286, xw49, rfl, rfl, by decide⟩
theorem kX11_faultOf_103 : xCV mX11_faultOf 103 mX11_blanks 1 11 := ⟨xC0.mk eX11_blanks (Nat.le_of_ble_eq_true rfl) (Nat.le_of_ble_eq_true rfl), xw1235, xw1237, xw37, rfl, rfl, by decide⟩
theorem kX11_faultOf_164 : xCV mX11_faultOf 164 mX11_readsOne 1 11 := ⟨xC0.mk eX11_readsOne (Nat.le_of_ble_eq_true rfl) (Nat.le_of_ble_eq_true rfl), xw1243, xw1245, xw39, rfl, rfl, by decide⟩
theorem kX11_fault_94 : xCS mX11_fault 94 mX11_isText 1 := ⟨xC0.mk eX11_isText (Nat.le_of_ble_eq_true rfl) (Nat.le_of_ble_eq_true rfl), xw1220, xw1221⟩
theorem kX11_fault_83 : xCV mX11_fault 83 mX11_found 1 11 := ⟨xC0.mk eX11_found (Nat.le_of_ble_eq_true rfl) (Nat.le_of_ble_eq_true rfl), xw1184, xw1186, xw33, rfl, rfl, by decide⟩
theorem kX11_fault_167 : xCV mX11_fault 167 mX11_faultOf 1 11 := ⟨xC0.mk eX11_faultOf (Nat.le_of_ble_eq_true rfl) (Nat.le_of_ble_eq_true rfl), xw1231, xw1233, xw36, rfl, rfl, by decide⟩
theorem kX11_sheet_94 : xCS mX11_sheet 94 mX11_isText 1 := ⟨xC0.mk eX11_isText (Nat.le_of_ble_eq_true rfl) (Nat.le_of_ble_eq_true rfl), xw1220, xw1221⟩
theorem kX11_sheet_83 : xCV mX11_sheet 83 mX11_found 1 11 := ⟨xC0.mk eX11_found (Nat.le_of_ble_eq_true rfl) (Nat.le_of_ble_eq_true rfl), xw1184, xw1186, xw33, rfl, rfl, by decide⟩
theorem kX11_sheet_167 : xCV mX11_sheet 167 mX11_faultOf 1 11 := ⟨xC0.mk eX11_faultOf (Nat.le_of_ble_eq_true rfl) (Nat.le_of_ble_eq_true rfl), xw1231, xw1233, xw36, rfl, rfl, by decide⟩
theorem kX11_sheet_182 : xCV mX11_sheet 182 mX11_liftsAll 0 11 := ⟨xC0.mk eX11_liftsAll (Nat.le_of_ble_eq_true rfl) (Nat.le_of_ble_eq_true rfl), xw1292, xw1294, xw50, rfl, rfl, by decide⟩
theorem kX11_writesWord_191 : xCV mX11_writesWord 191 mX11_writes 1 11 := ⟨xC0.mk eX11_writes (Nat.le_of_ble_eq_true rfl) (Nat.le_of_ble_eq_true rfl), xw1304, xw1306, xw52, rfl, rfl, by decide⟩
theorem kX11_writesNumber_191 : xCV mX11_writesNumber 191 mX11_writes 1 11 := ⟨xC0.mk eX11_writes (Nat.le_of_ble_eq_true rfl) (Nat.le_of_ble_eq_true rfl), xw1304, xw1306, xw52, rfl, rfl, by decide⟩
theorem kX11_write_94 : xCS mX11_write 94 mX11_isText 1 := ⟨xC0.mk eX11_isText (Nat.le_of_ble_eq_true rfl) (Nat.le_of_ble_eq_true rfl), xw1220, xw1221⟩
theorem kX11_write_194 : xCV mX11_write 194 mX11_writesWord 1 11 := ⟨xC0.mk eX11_writesWord (Nat.le_of_ble_eq_true rfl) (Nat.le_of_ble_eq_true rfl), xw1300, xw1302, xw51, rfl, rfl, by decide⟩
theorem kX11_write_197 : xCV mX11_write 197 mX11_writesNumber 1 11 := ⟨xC0.mk eX11_writesNumber (Nat.le_of_ble_eq_true rfl) (Nat.le_of_ble_eq_true rfl), xw1308, xw1310, xw53, rfl, rfl, by decide⟩
theorem kX11_write_191 : xCV mX11_write 191 mX11_writes 1 11 := ⟨xC0.mk eX11_writes (Nat.le_of_ble_eq_true rfl) (Nat.le_of_ble_eq_true rfl), xw1304, xw1306, xw52, rfl, rfl, by decide⟩
theorem kX11_write_201 : xCV mX11_write 201 mX11_kindOf 1 11 := ⟨xC0.mk eX11_kindOf (Nat.le_of_ble_eq_true rfl) (Nat.le_of_ble_eq_true rfl), xw1313, xw1315, xw54, rfl, rfl, by decide⟩
theorem kX11_isFrame_75 : xCS mX11_isFrame 75 mX11_in 3 := ⟨xC0.mk eX11_in (Nat.le_of_ble_eq_true rfl) (Nat.le_of_ble_eq_true rfl), xw1174, xw1175⟩
theorem kX11_leftOf_201 : xCV mX11_leftOf 201 mX11_kindOf 1 11 := ⟨xC0.mk eX11_kindOf (Nat.le_of_ble_eq_true rfl) (Nat.le_of_ble_eq_true rfl), xw1313, xw1315, xw54, rfl, rfl, by decide⟩
theorem kX11_leftOf_208 : xCV mX11_leftOf 208 mX11_of 2 11 := ⟨xC0.mk eX11_of (Nat.le_of_ble_eq_true rfl) (Nat.le_of_ble_eq_true rfl), xw1337, xw1339, xw58, rfl, rfl, by decide⟩
theorem kX11_aboveOf_201 : xCV mX11_aboveOf 201 mX11_kindOf 1 11 := ⟨xC0.mk eX11_kindOf (Nat.le_of_ble_eq_true rfl) (Nat.le_of_ble_eq_true rfl), xw1313, xw1315, xw54, rfl, rfl, by decide⟩
theorem kX11_aboveOf_208 : xCV mX11_aboveOf 208 mX11_of 2 11 := ⟨xC0.mk eX11_of (Nat.le_of_ble_eq_true rfl) (Nat.le_of_ble_eq_true rfl), xw1337, xw1339, xw58, rfl, rfl, by decide⟩
theorem kX11_across_201 : xCV mX11_across 201 mX11_kindOf 1 11 := ⟨xC0.mk eX11_kindOf (Nat.le_of_ble_eq_true rfl) (Nat.le_of_ble_eq_true rfl), xw1313, xw1315, xw54, rfl, rfl, by decide⟩
theorem kX11_across_208 : xCV mX11_across 208 mX11_of 2 11 := ⟨xC0.mk eX11_of (Nat.le_of_ble_eq_true rfl) (Nat.le_of_ble_eq_true rfl), xw1337, xw1339, xw58, rfl, rfl, by decide⟩
theorem kX11_down_201 : xCV mX11_down 201 mX11_kindOf 1 11 := ⟨xC0.mk eX11_kindOf (Nat.le_of_ble_eq_true rfl) (Nat.le_of_ble_eq_true rfl), xw1313, xw1315, xw54, rfl, rfl, by decide⟩
theorem kX11_down_208 : xCV mX11_down 208 mX11_of 2 11 := ⟨xC0.mk eX11_of (Nat.le_of_ble_eq_true rfl) (Nat.le_of_ble_eq_true rfl), xw1337, xw1339, xw58, rfl, rfl, by decide⟩
theorem kX11_edge_201 : xCV mX11_edge 201 mX11_kindOf 1 11 := ⟨xC0.mk eX11_kindOf (Nat.le_of_ble_eq_true rfl) (Nat.le_of_ble_eq_true rfl), xw1313, xw1315, xw54, rfl, rfl, by decide⟩
theorem kX11_needX_211 : xCV mX11_needX 211 mX11_edge 1 11 := ⟨xC0.mk eX11_edge (Nat.le_of_ble_eq_true rfl) (Nat.le_of_ble_eq_true rfl), xw1349, xw1351, xw61, rfl, rfl, by decide⟩
theorem kX11_needX_214 : xCV mX11_needX 214 mX11_across 1 11 := ⟨xC0.mk eX11_across (Nat.le_of_ble_eq_true rfl) (Nat.le_of_ble_eq_true rfl), xw1333, xw1335, xw57, rfl, rfl, by decide⟩
theorem kX11_needX_217 : xCV mX11_needX 217 mX11_down 1 11 := ⟨xC0.mk eX11_down (Nat.le_of_ble_eq_true rfl) (Nat.le_of_ble_eq_true rfl), xw1341, xw1343, xw59, rfl, rfl, by decide⟩
theorem kX11_needY_220 : xCV mX11_needY 220 mX11_needX 2 11 := ⟨xC0.mk eX11_needX (Nat.le_of_ble_eq_true rfl) (Nat.le_of_ble_eq_true rfl), xw1345, xw1347, xw60, rfl, rfl, by decide⟩
theorem kX11_frame_223 : xCV mX11_frame 223 mX11_isFrame 1 11 := ⟨xC0.mk eX11_isFrame (Nat.le_of_ble_eq_true rfl) (Nat.le_of_ble_eq_true rfl), xw1325, xw1327, xw55, rfl, rfl, by decide⟩
theorem kX11_frame_75 : xCS mX11_frame 75 mX11_in 3 := ⟨xC0.mk eX11_in (Nat.le_of_ble_eq_true rfl) (Nat.le_of_ble_eq_true rfl), xw1174, xw1175⟩
theorem kX11_frame_226 : xCV mX11_frame 226 mX11_frameTells 2 11 := ⟨xC0.mk eX11_frameTells (Nat.le_of_ble_eq_true rfl) (Nat.le_of_ble_eq_true rfl), xw1329, xw1331, xw56, rfl, rfl, by decide⟩
theorem kX11_frame_91 : xCV mX11_frame 91 mX11_tells 2 11 := ⟨xC0.mk eX11_tells (Nat.le_of_ble_eq_true rfl) (Nat.le_of_ble_eq_true rfl), xw1196, xw1198, xw35, rfl, rfl, by decide⟩
theorem kX11_frameTells_201 : xCV mX11_frameTells 201 mX11_kindOf 1 11 := ⟨xC0.mk eX11_kindOf (Nat.le_of_ble_eq_true rfl) (Nat.le_of_ble_eq_true rfl), xw1313, xw1315, xw54, rfl, rfl, by decide⟩
theorem kX11_frameTells_214 : xCV mX11_frameTells 214 mX11_across 1 11 := ⟨xC0.mk eX11_across (Nat.le_of_ble_eq_true rfl) (Nat.le_of_ble_eq_true rfl), xw1333, xw1335, xw57, rfl, rfl, by decide⟩
theorem kX11_frameTells_217 : xCV mX11_frameTells 217 mX11_down 1 11 := ⟨xC0.mk eX11_down (Nat.le_of_ble_eq_true rfl) (Nat.le_of_ble_eq_true rfl), xw1341, xw1343, xw59, rfl, rfl, by decide⟩
theorem kX11_frameTells_220 : xCV mX11_frameTells 220 mX11_needX 2 11 := ⟨xC0.mk eX11_needX (Nat.le_of_ble_eq_true rfl) (Nat.le_of_ble_eq_true rfl), xw1345, xw1347, xw60, rfl, rfl, by decide⟩
theorem kX11_frameTells_229 : xCV mX11_frameTells 229 mX11_needY 2 11 := ⟨xC0.mk eX11_needY (Nat.le_of_ble_eq_true rfl) (Nat.le_of_ble_eq_true rfl), xw1353, xw1355, xw62, rfl, rfl, by decide⟩
theorem kX11_place_223 : xCV mX11_place 223 mX11_isFrame 1 11 := ⟨xC0.mk eX11_isFrame (Nat.le_of_ble_eq_true rfl) (Nat.le_of_ble_eq_true rfl), xw1325, xw1327, xw55, rfl, rfl, by decide⟩
theorem kX11_place_75 : xCS mX11_place 75 mX11_in 3 := ⟨xC0.mk eX11_in (Nat.le_of_ble_eq_true rfl) (Nat.le_of_ble_eq_true rfl), xw1174, xw1175⟩
theorem kX11_place_232 : xCV mX11_place 232 mX11_isSet 1 11 := ⟨xC0.mk eX11_isSet (Nat.le_of_ble_eq_true rfl) (Nat.le_of_ble_eq_true rfl), xw1361, xw1363, xw63, rfl, rfl, by decide⟩
theorem kX11_place_91 : xCV mX11_place 91 mX11_tells 2 11 := ⟨xC0.mk eX11_tells (Nat.le_of_ble_eq_true rfl) (Nat.le_of_ble_eq_true rfl), xw1196, xw1198, xw35, rfl, rfl, by decide⟩
theorem kX11_mark_223 : xCV mX11_mark 223 mX11_isFrame 1 11 := ⟨xC0.mk eX11_isFrame (Nat.le_of_ble_eq_true rfl) (Nat.le_of_ble_eq_true rfl), xw1325, xw1327, xw55, rfl, rfl, by decide⟩
theorem kX11_mark_75 : xCS mX11_mark 75 mX11_in 3 := ⟨xC0.mk eX11_in (Nat.le_of_ble_eq_true rfl) (Nat.le_of_ble_eq_true rfl), xw1174, xw1175⟩
theorem kX11_mark_201 : xCV mX11_mark 201 mX11_kindOf 1 11 := ⟨xC0.mk eX11_kindOf (Nat.le_of_ble_eq_true rfl) (Nat.le_of_ble_eq_true rfl), xw1313, xw1315, xw54, rfl, rfl, by decide⟩
theorem kX11_mark_83 : xCV mX11_mark 83 mX11_found 1 11 := ⟨xC0.mk eX11_found (Nat.le_of_ble_eq_true rfl) (Nat.le_of_ble_eq_true rfl), xw1184, xw1186, xw33, rfl, rfl, by decide⟩
theorem kX11_mark_214 : xCV mX11_mark 214 mX11_across 1 11 := ⟨xC0.mk eX11_across (Nat.le_of_ble_eq_true rfl) (Nat.le_of_ble_eq_true rfl), xw1333, xw1335, xw57, rfl, rfl, by decide⟩
theorem kX11_mark_217 : xCV mX11_mark 217 mX11_down 1 11 := ⟨xC0.mk eX11_down (Nat.le_of_ble_eq_true rfl) (Nat.le_of_ble_eq_true rfl), xw1341, xw1343, xw59, rfl, rfl, by decide⟩
theorem kX11_mark_220 : xCV mX11_mark 220 mX11_needX 2 11 := ⟨xC0.mk eX11_needX (Nat.le_of_ble_eq_true rfl) (Nat.le_of_ble_eq_true rfl), xw1345, xw1347, xw60, rfl, rfl, by decide⟩
theorem kX11_mark_229 : xCV mX11_mark 229 mX11_needY 2 11 := ⟨xC0.mk eX11_needY (Nat.le_of_ble_eq_true rfl) (Nat.le_of_ble_eq_true rfl), xw1353, xw1355, xw62, rfl, rfl, by decide⟩
theorem kX11_mark_208 : xCV mX11_mark 208 mX11_of 2 11 := ⟨xC0.mk eX11_of (Nat.le_of_ble_eq_true rfl) (Nat.le_of_ble_eq_true rfl), xw1337, xw1339, xw58, rfl, rfl, by decide⟩
theorem kX11_layGrid_229 : xCV mX11_layGrid 229 mX11_needY 2 11 := ⟨xC0.mk eX11_needY (Nat.le_of_ble_eq_true rfl) (Nat.le_of_ble_eq_true rfl), xw1353, xw1355, xw62, rfl, rfl, by decide⟩
theorem kX11_layGrid_220 : xCV mX11_layGrid 220 mX11_needX 2 11 := ⟨xC0.mk eX11_needX (Nat.le_of_ble_eq_true rfl) (Nat.le_of_ble_eq_true rfl), xw1345, xw1347, xw60, rfl, rfl, by decide⟩
theorem kX11_isGreatest_235 : xCV mX11_isGreatest 235 mX11_isFree 4 11 := ⟨xC0.mk eX11_isFree (Nat.le_of_ble_eq_true rfl) (Nat.le_of_ble_eq_true rfl), xw1401, xw1403, xw68, rfl, rfl, by decide⟩
theorem kX11_layFree_239 : xCV mX11_layFree 239 mX11_layGrid 1 11 := ⟨xC0.mk eX11_layGrid (Nat.le_of_ble_eq_true rfl) (Nat.le_of_ble_eq_true rfl), xw1397, xw1399, xw67, rfl, rfl, by decide⟩
theorem kX11_layFree_235 : xCV mX11_layFree 235 mX11_isFree 4 11 := ⟨xC0.mk eX11_isFree (Nat.le_of_ble_eq_true rfl) (Nat.le_of_ble_eq_true rfl), xw1401, xw1403, xw68, rfl, rfl, by decide⟩
theorem kX11_layFree_245 : xCV mX11_layFree 245 mX11_isGreatest 4 11 := ⟨xC0.mk eX11_isGreatest (Nat.le_of_ble_eq_true rfl) (Nat.le_of_ble_eq_true rfl), xw1405, xw1407, xw69, rfl, rfl, by decide⟩
theorem kX11_first_220 : xCV mX11_first 220 mX11_needX 2 11 := ⟨xC0.mk eX11_needX (Nat.le_of_ble_eq_true rfl) (Nat.le_of_ble_eq_true rfl), xw1345, xw1347, xw60, rfl, rfl, by decide⟩
theorem kX11_first_229 : xCV mX11_first 229 mX11_needY 2 11 := ⟨xC0.mk eX11_needY (Nat.le_of_ble_eq_true rfl) (Nat.le_of_ble_eq_true rfl), xw1353, xw1355, xw62, rfl, rfl, by decide⟩
theorem kX11_second_220 : xCV mX11_second 220 mX11_needX 2 11 := ⟨xC0.mk eX11_needX (Nat.le_of_ble_eq_true rfl) (Nat.le_of_ble_eq_true rfl), xw1345, xw1347, xw60, rfl, rfl, by decide⟩
theorem kX11_second_229 : xCV mX11_second 229 mX11_needY 2 11 := ⟨xC0.mk eX11_needY (Nat.le_of_ble_eq_true rfl) (Nat.le_of_ble_eq_true rfl), xw1353, xw1355, xw62, rfl, rfl, by decide⟩
theorem kX11_turns_201 : xCV mX11_turns 201 mX11_kindOf 1 11 := ⟨xC0.mk eX11_kindOf (Nat.le_of_ble_eq_true rfl) (Nat.le_of_ble_eq_true rfl), xw1313, xw1315, xw54, rfl, rfl, by decide⟩
theorem kX11_findsRoom_251 : xCV mX11_findsRoom 251 mX11_turns 1 11 := ⟨xC0.mk eX11_turns (Nat.le_of_ble_eq_true rfl) (Nat.le_of_ble_eq_true rfl), xw1413, xw1415, xw71, rfl, rfl, by decide⟩
theorem kX11_findsRoom_220 : xCV mX11_findsRoom 220 mX11_needX 2 11 := ⟨xC0.mk eX11_needX (Nat.le_of_ble_eq_true rfl) (Nat.le_of_ble_eq_true rfl), xw1345, xw1347, xw60, rfl, rfl, by decide⟩
theorem kX11_findsRoom_229 : xCV mX11_findsRoom 229 mX11_needY 2 11 := ⟨xC0.mk eX11_needY (Nat.le_of_ble_eq_true rfl) (Nat.le_of_ble_eq_true rfl), xw1353, xw1355, xw62, rfl, rfl, by decide⟩
theorem kX11_findsRoom_254 : xCV mX11_findsRoom 254 mX11_first 4 11 := ⟨xC0.mk eX11_first (Nat.le_of_ble_eq_true rfl) (Nat.le_of_ble_eq_true rfl), xw1417, xw1419, xw72, rfl, rfl, by decide⟩
theorem kX11_findsRoom_258 : xCV mX11_findsRoom 258 mX11_second 4 11 := ⟨xC0.mk eX11_second (Nat.le_of_ble_eq_true rfl) (Nat.le_of_ble_eq_true rfl), xw1421, xw1423, xw73, rfl, rfl, by decide⟩
theorem kX11_findsPage_270 : xCV mX11_findsPage 270 mX11_pageMany 0 11 := ⟨xC0.mk eX11_pageMany (Nat.le_of_ble_eq_true rfl) (Nat.le_of_ble_eq_true rfl), xw1389, xw1391, xw65, rfl, rfl, by decide⟩
theorem kX11_findsPage_274 : xCV mX11_findsPage 274 mX11_layFree 1 11 := ⟨xC0.mk eX11_layFree (Nat.le_of_ble_eq_true rfl) (Nat.le_of_ble_eq_true rfl), xw1393, xw1395, xw66, rfl, rfl, by decide⟩
theorem kX11_findsPage_277 : xCV mX11_findsPage 277 mX11_findsRoom 2 11 := ⟨xC0.mk eX11_findsRoom (Nat.le_of_ble_eq_true rfl) (Nat.le_of_ble_eq_true rfl), xw1409, xw1411, xw70, rfl, rfl, by decide⟩
theorem kX11_weight_220 : xCV mX11_weight 220 mX11_needX 2 11 := ⟨xC0.mk eX11_needX (Nat.le_of_ble_eq_true rfl) (Nat.le_of_ble_eq_true rfl), xw1345, xw1347, xw60, rfl, rfl, by decide⟩
theorem kX11_weight_229 : xCV mX11_weight 229 mX11_needY 2 11 := ⟨xC0.mk eX11_needY (Nat.le_of_ble_eq_true rfl) (Nat.le_of_ble_eq_true rfl), xw1353, xw1355, xw62, rfl, rfl, by decide⟩
theorem kX11_setsAll_182 : xCV mX11_setsAll 182 mX11_liftsAll 0 11 := ⟨xC0.mk eX11_liftsAll (Nat.le_of_ble_eq_true rfl) (Nat.le_of_ble_eq_true rfl), xw1292, xw1294, xw50, rfl, rfl, by decide⟩
theorem kX11_setsAll_280 : xCS mX11_setsAll 280 mX11_has 2 := ⟨xC0.mk eX11_has (Nat.le_of_ble_eq_true rfl) (Nat.le_of_ble_eq_true rfl), xw1449, xw1450⟩
theorem kX11_setsAll_283 : xCV mX11_setsAll 283 mX11_weight 2 11 := ⟨xC0.mk eX11_weight (Nat.le_of_ble_eq_true rfl) (Nat.le_of_ble_eq_true rfl), xw1452, xw1454, xw78, rfl, rfl, by decide⟩
theorem kX11_setsAll_286 : xCV mX11_setsAll 286 mX11_findsPage 1 11 := ⟨xC0.mk eX11_findsPage (Nat.le_of_ble_eq_true rfl) (Nat.le_of_ble_eq_true rfl), xw1385, xw1387, xw64, rfl, rfl, by decide⟩
theorem kX11_setsAll_289 : xCV mX11_setsAll 289 mX11_sets 2 11 := ⟨xC0.mk eX11_sets (Nat.le_of_ble_eq_true rfl) (Nat.le_of_ble_eq_true rfl), xw1429, xw1431, xw75, rfl, rfl, by decide⟩
theorem kX11_undo_75 : xCS mX11_undo 75 mX11_in 3 := ⟨xC0.mk eX11_in (Nat.le_of_ble_eq_true rfl) (Nat.le_of_ble_eq_true rfl), xw1174, xw1175⟩
theorem kX11_keep_75 : xCS mX11_keep 75 mX11_in 3 := ⟨xC0.mk eX11_in (Nat.le_of_ble_eq_true rfl) (Nat.le_of_ble_eq_true rfl), xw1174, xw1175⟩
theorem kX11_on_75 : xCS mX11_on 75 mX11_in 3 := ⟨xC0.mk eX11_in (Nat.le_of_ble_eq_true rfl) (Nat.le_of_ble_eq_true rfl), xw1174, xw1175⟩
theorem kX11_on_83 : xCV mX11_on 83 mX11_found 1 11 := ⟨xC0.mk eX11_found (Nat.le_of_ble_eq_true rfl) (Nat.le_of_ble_eq_true rfl), xw1184, xw1186, xw33, rfl, rfl, by decide⟩
theorem kX11_set_223 : xCV mX11_set 223 mX11_isFrame 1 11 := ⟨xC0.mk eX11_isFrame (Nat.le_of_ble_eq_true rfl) (Nat.le_of_ble_eq_true rfl), xw1325, xw1327, xw55, rfl, rfl, by decide⟩
theorem kX11_set_232 : xCV mX11_set 232 mX11_isSet 1 11 := ⟨xC0.mk eX11_isSet (Nat.le_of_ble_eq_true rfl) (Nat.le_of_ble_eq_true rfl), xw1361, xw1363, xw63, rfl, rfl, by decide⟩
theorem kX11_set_286 : xCV mX11_set 286 mX11_findsPage 1 11 := ⟨xC0.mk eX11_findsPage (Nat.le_of_ble_eq_true rfl) (Nat.le_of_ble_eq_true rfl), xw1385, xw1387, xw64, rfl, rfl, by decide⟩
theorem kX11_set_293 : xCV mX11_set 293 mX11_remember 0 11 := ⟨xC0.mk eX11_remember (Nat.le_of_ble_eq_true rfl) (Nat.le_of_ble_eq_true rfl), xw1425, xw1427, xw74, rfl, rfl, by decide⟩
theorem kX11_set_289 : xCV mX11_set 289 mX11_sets 2 11 := ⟨xC0.mk eX11_sets (Nat.le_of_ble_eq_true rfl) (Nat.le_of_ble_eq_true rfl), xw1429, xw1431, xw75, rfl, rfl, by decide⟩
theorem kX11_lift_223 : xCV mX11_lift 223 mX11_isFrame 1 11 := ⟨xC0.mk eX11_isFrame (Nat.le_of_ble_eq_true rfl) (Nat.le_of_ble_eq_true rfl), xw1325, xw1327, xw55, rfl, rfl, by decide⟩
theorem kX11_lift_232 : xCV mX11_lift 232 mX11_isSet 1 11 := ⟨xC0.mk eX11_isSet (Nat.le_of_ble_eq_true rfl) (Nat.le_of_ble_eq_true rfl), xw1361, xw1363, xw63, rfl, rfl, by decide⟩
theorem kX11_lift_293 : xCV mX11_lift 293 mX11_remember 0 11 := ⟨xC0.mk eX11_remember (Nat.le_of_ble_eq_true rfl) (Nat.le_of_ble_eq_true rfl), xw1425, xw1427, xw74, rfl, rfl, by decide⟩
theorem kX11_lift_296 : xCV mX11_lift 296 mX11_lifts 1 11 := ⟨xC0.mk eX11_lifts (Nat.le_of_ble_eq_true rfl) (Nat.le_of_ble_eq_true rfl), xw1437, xw1439, xw76, rfl, rfl, by decide⟩
theorem kX11_lift_270 : xCV mX11_lift 270 mX11_pageMany 0 11 := ⟨xC0.mk eX11_pageMany (Nat.le_of_ble_eq_true rfl) (Nat.le_of_ble_eq_true rfl), xw1389, xw1391, xw65, rfl, rfl, by decide⟩
theorem kX11_all_75 : xCS mX11_all 75 mX11_in 3 := ⟨xC0.mk eX11_in (Nat.le_of_ble_eq_true rfl) (Nat.le_of_ble_eq_true rfl), xw1174, xw1175⟩
theorem kX11_all_293 : xCV mX11_all 293 mX11_remember 0 11 := ⟨xC0.mk eX11_remember (Nat.le_of_ble_eq_true rfl) (Nat.le_of_ble_eq_true rfl), xw1425, xw1427, xw74, rfl, rfl, by decide⟩
theorem kX11_all_299 : xCV mX11_all 299 mX11_setsAll 1 11 := ⟨xC0.mk eX11_setsAll (Nat.le_of_ble_eq_true rfl) (Nat.le_of_ble_eq_true rfl), xw1445, xw1447, xw77, rfl, rfl, by decide⟩
theorem kX11_all_270 : xCV mX11_all 270 mX11_pageMany 0 11 := ⟨xC0.mk eX11_pageMany (Nat.le_of_ble_eq_true rfl) (Nat.le_of_ble_eq_true rfl), xw1389, xw1391, xw65, rfl, rfl, by decide⟩
theorem kX11_rule_75 : xCS mX11_rule 75 mX11_in 3 := ⟨xC0.mk eX11_in (Nat.le_of_ble_eq_true rfl) (Nat.le_of_ble_eq_true rfl), xw1174, xw1175⟩
theorem kX11_rule_293 : xCV mX11_rule 293 mX11_remember 0 11 := ⟨xC0.mk eX11_remember (Nat.le_of_ble_eq_true rfl) (Nat.le_of_ble_eq_true rfl), xw1425, xw1427, xw74, rfl, rfl, by decide⟩
theorem kX11_isPage_270 : xCV mX11_isPage 270 mX11_pageMany 0 11 := ⟨xC0.mk eX11_pageMany (Nat.le_of_ble_eq_true rfl) (Nat.le_of_ble_eq_true rfl), xw1389, xw1391, xw65, rfl, rfl, by decide⟩
theorem kX11_isPage_75 : xCS mX11_isPage 75 mX11_in 3 := ⟨xC0.mk eX11_in (Nat.le_of_ble_eq_true rfl) (Nat.le_of_ble_eq_true rfl), xw1174, xw1175⟩
theorem kX11_free_302 : xCV mX11_free 302 mX11_isPage 1 11 := ⟨xC0.mk eX11_isPage (Nat.le_of_ble_eq_true rfl) (Nat.le_of_ble_eq_true rfl), xw1464, xw1466, xw79, rfl, rfl, by decide⟩
theorem kX11_free_75 : xCS mX11_free 75 mX11_in 3 := ⟨xC0.mk eX11_in (Nat.le_of_ble_eq_true rfl) (Nat.le_of_ble_eq_true rfl), xw1174, xw1175⟩
theorem kX11_free_274 : xCV mX11_free 274 mX11_layFree 1 11 := ⟨xC0.mk eX11_layFree (Nat.le_of_ble_eq_true rfl) (Nat.le_of_ble_eq_true rfl), xw1393, xw1395, xw66, rfl, rfl, by decide⟩
theorem kX11_free_91 : xCV mX11_free 91 mX11_tells 2 11 := ⟨xC0.mk eX11_tells (Nat.le_of_ble_eq_true rfl) (Nat.le_of_ble_eq_true rfl), xw1196, xw1198, xw35, rfl, rfl, by decide⟩
theorem kX11_seen_302 : xCV mX11_seen 302 mX11_isPage 1 11 := ⟨xC0.mk eX11_isPage (Nat.le_of_ble_eq_true rfl) (Nat.le_of_ble_eq_true rfl), xw1464, xw1466, xw79, rfl, rfl, by decide⟩
theorem kX11_seen_75 : xCS mX11_seen 75 mX11_in 3 := ⟨xC0.mk eX11_in (Nat.le_of_ble_eq_true rfl) (Nat.le_of_ble_eq_true rfl), xw1174, xw1175⟩
theorem kX11_seen_239 : xCV mX11_seen 239 mX11_layGrid 1 11 := ⟨xC0.mk eX11_layGrid (Nat.le_of_ble_eq_true rfl) (Nat.le_of_ble_eq_true rfl), xw1397, xw1399, xw67, rfl, rfl, by decide⟩
theorem kX11_seen_211 : xCV mX11_seen 211 mX11_edge 1 11 := ⟨xC0.mk eX11_edge (Nat.le_of_ble_eq_true rfl) (Nat.le_of_ble_eq_true rfl), xw1349, xw1351, xw61, rfl, rfl, by decide⟩
theorem kX11_seen_214 : xCV mX11_seen 214 mX11_across 1 11 := ⟨xC0.mk eX11_across (Nat.le_of_ble_eq_true rfl) (Nat.le_of_ble_eq_true rfl), xw1333, xw1335, xw57, rfl, rfl, by decide⟩
theorem kX11_seen_305 : xCS mX11_seen 305 mX11_clamped 2 := ⟨xC0.mk eX11_clamped (Nat.le_of_ble_eq_true rfl) (Nat.le_of_ble_eq_true rfl), xw1472, xw1473⟩
theorem kX11_seen_308 : xCV mX11_seen 308 mX11_leftOf 1 11 := ⟨xC0.mk eX11_leftOf (Nat.le_of_ble_eq_true rfl) (Nat.le_of_ble_eq_true rfl), xw1475, xw1477, xw80, rfl, rfl, by decide⟩
theorem kX11_seen_217 : xCV mX11_seen 217 mX11_down 1 11 := ⟨xC0.mk eX11_down (Nat.le_of_ble_eq_true rfl) (Nat.le_of_ble_eq_true rfl), xw1341, xw1343, xw59, rfl, rfl, by decide⟩
theorem kX11_seen_311 : xCV mX11_seen 311 mX11_aboveOf 1 11 := ⟨xC0.mk eX11_aboveOf (Nat.le_of_ble_eq_true rfl) (Nat.le_of_ble_eq_true rfl), xw1479, xw1481, xw81, rfl, rfl, by decide⟩
theorem kX11_seen_91 : xCV mX11_seen 91 mX11_tells 2 11 := ⟨xC0.mk eX11_tells (Nat.le_of_ble_eq_true rfl) (Nat.le_of_ble_eq_true rfl), xw1196, xw1198, xw35, rfl, rfl, by decide⟩
theorem kX11_point_223 : xCV mX11_point 223 mX11_isFrame 1 11 := ⟨xC0.mk eX11_isFrame (Nat.le_of_ble_eq_true rfl) (Nat.le_of_ble_eq_true rfl), xw1325, xw1327, xw55, rfl, rfl, by decide⟩
theorem kX11_point_208 : xCV mX11_point 208 mX11_of 2 11 := ⟨xC0.mk eX11_of (Nat.le_of_ble_eq_true rfl) (Nat.le_of_ble_eq_true rfl), xw1337, xw1339, xw58, rfl, rfl, by decide⟩
theorem kX11_point_75 : xCS mX11_point 75 mX11_in 3 := ⟨xC0.mk eX11_in (Nat.le_of_ble_eq_true rfl) (Nat.le_of_ble_eq_true rfl), xw1174, xw1175⟩
theorem kX11_point_232 : xCV mX11_point 232 mX11_isSet 1 11 := ⟨xC0.mk eX11_isSet (Nat.le_of_ble_eq_true rfl) (Nat.le_of_ble_eq_true rfl), xw1361, xw1363, xw63, rfl, rfl, by decide⟩
theorem kX11_point_308 : xCV mX11_point 308 mX11_leftOf 1 11 := ⟨xC0.mk eX11_leftOf (Nat.le_of_ble_eq_true rfl) (Nat.le_of_ble_eq_true rfl), xw1475, xw1477, xw80, rfl, rfl, by decide⟩
theorem kX11_point_311 : xCV mX11_point 311 mX11_aboveOf 1 11 := ⟨xC0.mk eX11_aboveOf (Nat.le_of_ble_eq_true rfl) (Nat.le_of_ble_eq_true rfl), xw1479, xw1481, xw81, rfl, rfl, by decide⟩
theorem kX11_point_214 : xCV mX11_point 214 mX11_across 1 11 := ⟨xC0.mk eX11_across (Nat.le_of_ble_eq_true rfl) (Nat.le_of_ble_eq_true rfl), xw1333, xw1335, xw57, rfl, rfl, by decide⟩
theorem kX11_point_217 : xCV mX11_point 217 mX11_down 1 11 := ⟨xC0.mk eX11_down (Nat.le_of_ble_eq_true rfl) (Nat.le_of_ble_eq_true rfl), xw1341, xw1343, xw59, rfl, rfl, by decide⟩
theorem kX11_point_211 : xCV mX11_point 211 mX11_edge 1 11 := ⟨xC0.mk eX11_edge (Nat.le_of_ble_eq_true rfl) (Nat.le_of_ble_eq_true rfl), xw1349, xw1351, xw61, rfl, rfl, by decide⟩
theorem kX11_takenOf_220 : xCV mX11_takenOf 220 mX11_needX 2 11 := ⟨xC0.mk eX11_needX (Nat.le_of_ble_eq_true rfl) (Nat.le_of_ble_eq_true rfl), xw1345, xw1347, xw60, rfl, rfl, by decide⟩
theorem kX11_takenOf_229 : xCV mX11_takenOf 229 mX11_needY 2 11 := ⟨xC0.mk eX11_needY (Nat.le_of_ble_eq_true rfl) (Nat.le_of_ble_eq_true rfl), xw1353, xw1355, xw62, rfl, rfl, by decide⟩
theorem kX11_used_302 : xCV mX11_used 302 mX11_isPage 1 11 := ⟨xC0.mk eX11_isPage (Nat.le_of_ble_eq_true rfl) (Nat.le_of_ble_eq_true rfl), xw1464, xw1466, xw79, rfl, rfl, by decide⟩
theorem kX11_used_314 : xCV mX11_used 314 mX11_takenOf 1 11 := ⟨xC0.mk eX11_takenOf (Nat.le_of_ble_eq_true rfl) (Nat.le_of_ble_eq_true rfl), xw1491, xw1493, xw82, rfl, rfl, by decide⟩
theorem kX11_used_91 : xCV mX11_used 91 mX11_tells 2 11 := ⟨xC0.mk eX11_tells (Nat.le_of_ble_eq_true rfl) (Nat.le_of_ble_eq_true rfl), xw1196, xw1198, xw35, rfl, rfl, by decide⟩
theorem kX11_takes_302 : xCV mX11_takes 302 mX11_isPage 1 11 := ⟨xC0.mk eX11_isPage (Nat.le_of_ble_eq_true rfl) (Nat.le_of_ble_eq_true rfl), xw1464, xw1466, xw79, rfl, rfl, by decide⟩
theorem kX11_takes_274 : xCV mX11_takes 274 mX11_layFree 1 11 := ⟨xC0.mk eX11_layFree (Nat.le_of_ble_eq_true rfl) (Nat.le_of_ble_eq_true rfl), xw1393, xw1395, xw66, rfl, rfl, by decide⟩
theorem kX11_takes_232 : xCV mX11_takes 232 mX11_isSet 1 11 := ⟨xC0.mk eX11_isSet (Nat.le_of_ble_eq_true rfl) (Nat.le_of_ble_eq_true rfl), xw1361, xw1363, xw63, rfl, rfl, by decide⟩
theorem kX11_takes_277 : xCV mX11_takes 277 mX11_findsRoom 2 11 := ⟨xC0.mk eX11_findsRoom (Nat.le_of_ble_eq_true rfl) (Nat.le_of_ble_eq_true rfl), xw1409, xw1411, xw70, rfl, rfl, by decide⟩
theorem kX11_takes_91 : xCV mX11_takes 91 mX11_tells 2 11 := ⟨xC0.mk eX11_tells (Nat.le_of_ble_eq_true rfl) (Nat.le_of_ble_eq_true rfl), xw1196, xw1198, xw35, rfl, rfl, by decide⟩
theorem kX11_tries_299 : xCV mX11_tries 299 mX11_setsAll 1 11 := ⟨xC0.mk eX11_setsAll (Nat.le_of_ble_eq_true rfl) (Nat.le_of_ble_eq_true rfl), xw1445, xw1447, xw77, rfl, rfl, by decide⟩
theorem kX11_tries_270 : xCV mX11_tries 270 mX11_pageMany 0 11 := ⟨xC0.mk eX11_pageMany (Nat.le_of_ble_eq_true rfl) (Nat.le_of_ble_eq_true rfl), xw1389, xw1391, xw65, rfl, rfl, by decide⟩
theorem kX11_tries_232 : xCV mX11_tries 232 mX11_isSet 1 11 := ⟨xC0.mk eX11_isSet (Nat.le_of_ble_eq_true rfl) (Nat.le_of_ble_eq_true rfl), xw1361, xw1363, xw63, rfl, rfl, by decide⟩
theorem kX11_tries_314 : xCV mX11_tries 314 mX11_takenOf 1 11 := ⟨xC0.mk eX11_takenOf (Nat.le_of_ble_eq_true rfl) (Nat.le_of_ble_eq_true rfl), xw1491, xw1493, xw82, rfl, rfl, by decide⟩
theorem kX11_would_75 : xCS mX11_would 75 mX11_in 3 := ⟨xC0.mk eX11_in (Nat.le_of_ble_eq_true rfl) (Nat.le_of_ble_eq_true rfl), xw1174, xw1175⟩
theorem kX11_would_326 : xCV mX11_would 326 mX11_tries 2 11 := ⟨xC0.mk eX11_tries (Nat.le_of_ble_eq_true rfl) (Nat.le_of_ble_eq_true rfl), xw1503, xw1505, xw83, rfl, rfl, by decide⟩
theorem kX11_would_91 : xCV mX11_would 91 mX11_tells 2 11 := ⟨xC0.mk eX11_tells (Nat.le_of_ble_eq_true rfl) (Nat.le_of_ble_eq_true rfl), xw1196, xw1198, xw35, rfl, rfl, by decide⟩
theorem kX11_best_326 : xCV mX11_best 326 mX11_tries 2 11 := ⟨xC0.mk eX11_tries (Nat.le_of_ble_eq_true rfl) (Nat.le_of_ble_eq_true rfl), xw1503, xw1505, xw83, rfl, rfl, by decide⟩
theorem kX11_best_329 : xCS mX11_best 329 mX11_bitsOf 1 := ⟨xC0.mk eX11_bitsOf (Nat.le_of_ble_eq_true rfl) (Nat.le_of_ble_eq_true rfl), xw1511, xw1512⟩
theorem kX11_best_91 : xCV mX11_best 91 mX11_tells 2 11 := ⟨xC0.mk eX11_tells (Nat.le_of_ble_eq_true rfl) (Nat.le_of_ble_eq_true rfl), xw1196, xw1198, xw35, rfl, rfl, by decide⟩
theorem kX11_lots_75 : xCS mX11_lots 75 mX11_in 3 := ⟨xC0.mk eX11_in (Nat.le_of_ble_eq_true rfl) (Nat.le_of_ble_eq_true rfl), xw1174, xw1175⟩
theorem kX11_lots_293 : xCV mX11_lots 293 mX11_remember 0 11 := ⟨xC0.mk eX11_remember (Nat.le_of_ble_eq_true rfl) (Nat.le_of_ble_eq_true rfl), xw1425, xw1427, xw74, rfl, rfl, by decide⟩
theorem kX11_lots_296 : xCV mX11_lots 296 mX11_lifts 1 11 := ⟨xC0.mk eX11_lifts (Nat.le_of_ble_eq_true rfl) (Nat.le_of_ble_eq_true rfl), xw1437, xw1439, xw76, rfl, rfl, by decide⟩
theorem kX11_lots_232 : xCV mX11_lots 232 mX11_isSet 1 11 := ⟨xC0.mk eX11_isSet (Nat.le_of_ble_eq_true rfl) (Nat.le_of_ble_eq_true rfl), xw1361, xw1363, xw63, rfl, rfl, by decide⟩
theorem kX11_lots_286 : xCV mX11_lots 286 mX11_findsPage 1 11 := ⟨xC0.mk eX11_findsPage (Nat.le_of_ble_eq_true rfl) (Nat.le_of_ble_eq_true rfl), xw1385, xw1387, xw64, rfl, rfl, by decide⟩
theorem kX11_lots_289 : xCV mX11_lots 289 mX11_sets 2 11 := ⟨xC0.mk eX11_sets (Nat.le_of_ble_eq_true rfl) (Nat.le_of_ble_eq_true rfl), xw1429, xw1431, xw75, rfl, rfl, by decide⟩
theorem kX11_lots_343 : xCV mX11_lots 343 mX11_setMany 0 11 := ⟨xC0.mk eX11_setMany (Nat.le_of_ble_eq_true rfl) (Nat.le_of_ble_eq_true rfl), xw1524, xw1526, xw84, rfl, rfl, by decide⟩
theorem kX11_setMany_232 : xCV mX11_setMany 232 mX11_isSet 1 11 := ⟨xC0.mk eX11_isSet (Nat.le_of_ble_eq_true rfl) (Nat.le_of_ble_eq_true rfl), xw1361, xw1363, xw63, rfl, rfl, by decide⟩
theorem kX11_allTaken_270 : xCV mX11_allTaken 270 mX11_pageMany 0 11 := ⟨xC0.mk eX11_pageMany (Nat.le_of_ble_eq_true rfl) (Nat.le_of_ble_eq_true rfl), xw1389, xw1391, xw65, rfl, rfl, by decide⟩
theorem kX11_allTaken_314 : xCV mX11_allTaken 314 mX11_takenOf 1 11 := ⟨xC0.mk eX11_takenOf (Nat.le_of_ble_eq_true rfl) (Nat.le_of_ble_eq_true rfl), xw1491, xw1493, xw82, rfl, rfl, by decide⟩
theorem kX11_allFree_270 : xCV mX11_allFree 270 mX11_pageMany 0 11 := ⟨xC0.mk eX11_pageMany (Nat.le_of_ble_eq_true rfl) (Nat.le_of_ble_eq_true rfl), xw1389, xw1391, xw65, rfl, rfl, by decide⟩
theorem kX11_allFree_274 : xCV mX11_allFree 274 mX11_layFree 1 11 := ⟨xC0.mk eX11_layFree (Nat.le_of_ble_eq_true rfl) (Nat.le_of_ble_eq_true rfl), xw1393, xw1395, xw66, rfl, rfl, by decide⟩
theorem kX11_counted_343 : xCV mX11_counted 343 mX11_setMany 0 11 := ⟨xC0.mk eX11_setMany (Nat.le_of_ble_eq_true rfl) (Nat.le_of_ble_eq_true rfl), xw1524, xw1526, xw84, rfl, rfl, by decide⟩
theorem kX11_counted_270 : xCV mX11_counted 270 mX11_pageMany 0 11 := ⟨xC0.mk eX11_pageMany (Nat.le_of_ble_eq_true rfl) (Nat.le_of_ble_eq_true rfl), xw1389, xw1391, xw65, rfl, rfl, by decide⟩
theorem kX11_counted_346 : xCV mX11_counted 346 mX11_allTaken 0 11 := ⟨xC0.mk eX11_allTaken (Nat.le_of_ble_eq_true rfl) (Nat.le_of_ble_eq_true rfl), xw1536, xw1538, xw86, rfl, rfl, by decide⟩
theorem kX11_counted_349 : xCV mX11_counted 349 mX11_allFree 0 11 := ⟨xC0.mk eX11_allFree (Nat.le_of_ble_eq_true rfl) (Nat.le_of_ble_eq_true rfl), xw1540, xw1542, xw87, rfl, rfl, by decide⟩
theorem kX11_count_75 : xCS mX11_count 75 mX11_in 3 := ⟨xC0.mk eX11_in (Nat.le_of_ble_eq_true rfl) (Nat.le_of_ble_eq_true rfl), xw1174, xw1175⟩
theorem kX11_count_352 : xCV mX11_count 352 mX11_counted 1 11 := ⟨xC0.mk eX11_counted (Nat.le_of_ble_eq_true rfl) (Nat.le_of_ble_eq_true rfl), xw1532, xw1534, xw85, rfl, rfl, by decide⟩
theorem kX11_digest_352 : xCV mX11_digest 352 mX11_counted 1 11 := ⟨xC0.mk eX11_counted (Nat.le_of_ble_eq_true rfl) (Nat.le_of_ble_eq_true rfl), xw1532, xw1534, xw85, rfl, rfl, by decide⟩
theorem kX11_digest_363 : xCV mX11_digest 363 mX11_adds 1 11 := ⟨xC0.mk eX11_adds (Nat.le_of_ble_eq_true rfl) (Nat.le_of_ble_eq_true rfl), xw1549, xw1551, xw88, rfl, rfl, by decide⟩
theorem kX11_digest_226 : xCV mX11_digest 226 mX11_frameTells 2 11 := ⟨xC0.mk eX11_frameTells (Nat.le_of_ble_eq_true rfl) (Nat.le_of_ble_eq_true rfl), xw1329, xw1331, xw56, rfl, rfl, by decide⟩
theorem kX11_digest_232 : xCV mX11_digest 232 mX11_isSet 1 11 := ⟨xC0.mk eX11_isSet (Nat.le_of_ble_eq_true rfl) (Nat.le_of_ble_eq_true rfl), xw1361, xw1363, xw63, rfl, rfl, by decide⟩
theorem kX11_digest_87 : xCV mX11_digest 87 mX11_rowAt 2 11 := ⟨xC0.mk eX11_rowAt (Nat.le_of_ble_eq_true rfl) (Nat.le_of_ble_eq_true rfl), xw1192, xw1194, xw34, rfl, rfl, by decide⟩
theorem kL_law_9 : xCI mL_law 9 mX10_init 0 := ⟨xC0.mk eX10_init (Nat.le_of_ble_eq_true rfl) (Nat.le_of_ble_eq_true rfl), xw110, xw111, rfl, rfl⟩
theorem kL_law_12 : xCI mL_law 12 mX11_init 0 := ⟨xC0.mk eX11_init (Nat.le_of_ble_eq_true rfl) (Nat.le_of_ble_eq_true rfl), xw1022, xw1023, rfl, rfl⟩
theorem kL_law_13 : xCV mL_law 13 mX10_row 2 10 := ⟨xC0.mk eX10_row (Nat.le_of_ble_eq_true rfl) (Nat.le_of_ble_eq_true rfl), xw426, xw427, xw428, rfl, rfl, by decide⟩
theorem kL_law_17 : xCV mL_law 17 mX11_row 2 11 := ⟨xC0.mk eX11_row (Nat.le_of_ble_eq_true rfl) (Nat.le_of_ble_eq_true rfl), xw1177, xw1178, xw1179, rfl, rfl, by decide⟩
theorem kL_law_18 : xCV mL_law 18 mX10_lay 3 10 := ⟨xC0.mk eX10_lay (Nat.le_of_ble_eq_true rfl) (Nat.le_of_ble_eq_true rfl), xw447, xw448, xw449, rfl, rfl, by decide⟩
theorem kL_law_22 : xCV mL_law 22 mX11_lay 3 11 := ⟨xC0.mk eX11_lay (Nat.le_of_ble_eq_true rfl) (Nat.le_of_ble_eq_true rfl), xw1188, xw1189, xw1190, rfl, rfl, by decide⟩
theorem kL_law_23 : xCV mL_law 23 mX10_at 2 10 := ⟨xC0.mk eX10_at (Nat.le_of_ble_eq_true rfl) (Nat.le_of_ble_eq_true rfl), xw459, xw460, xw461, rfl, rfl, by decide⟩
theorem kL_law_26 : xCV mL_law 26 mX11_at 2 11 := ⟨xC0.mk eX11_at (Nat.le_of_ble_eq_true rfl) (Nat.le_of_ble_eq_true rfl), xw1200, xw1201, xw1202, rfl, rfl, by decide⟩
theorem kL_law_27 : xCV mL_law 27 mX10_tear 1 10 := ⟨xC0.mk eX10_tear (Nat.le_of_ble_eq_true rfl) (Nat.le_of_ble_eq_true rfl), xw463, xw464, xw465, rfl, rfl, by decide⟩
theorem kL_law_31 : xCV mL_law 31 mX11_tear 1 11 := ⟨xC0.mk eX11_tear (Nat.le_of_ble_eq_true rfl) (Nat.le_of_ble_eq_true rfl), xw1204, xw1205, xw1206, rfl, rfl, by decide⟩
theorem kL_law_32 : xCV mL_law 32 mX10_copy 5 10 := ⟨xC0.mk eX10_copy (Nat.le_of_ble_eq_true rfl) (Nat.le_of_ble_eq_true rfl), xw467, xw468, xw469, rfl, rfl, by decide⟩
theorem kL_law_36 : xCV mL_law 36 mX11_copy 5 11 := ⟨xC0.mk eX11_copy (Nat.le_of_ble_eq_true rfl) (Nat.le_of_ble_eq_true rfl), xw1208, xw1209, xw1210, rfl, rfl, by decide⟩
theorem kL_law_37 : xCV mL_law 37 mX10_mean 1 10 := ⟨xC0.mk eX10_mean (Nat.le_of_ble_eq_true rfl) (Nat.le_of_ble_eq_true rfl), xw478, xw479, xw480, rfl, rfl, by decide⟩
theorem kL_law_40 : xCV mL_law 40 mX11_mean 1 11 := ⟨xC0.mk eX11_mean (Nat.le_of_ble_eq_true rfl) (Nat.le_of_ble_eq_true rfl), xw1212, xw1213, xw1214, rfl, rfl, by decide⟩
theorem kL_law_41 : xCV mL_law 41 mX10_text 2 10 := ⟨xC0.mk eX10_text (Nat.le_of_ble_eq_true rfl) (Nat.le_of_ble_eq_true rfl), xw486, xw487, xw488, rfl, rfl, by decide⟩
theorem kL_law_44 : xCV mL_law 44 mX11_text 2 11 := ⟨xC0.mk eX11_text (Nat.le_of_ble_eq_true rfl) (Nat.le_of_ble_eq_true rfl), xw1216, xw1217, xw1218, rfl, rfl, by decide⟩
theorem kL_law_45 : xCV mL_law 45 mX10_put 3 10 := ⟨xC0.mk eX10_put (Nat.le_of_ble_eq_true rfl) (Nat.le_of_ble_eq_true rfl), xw496, xw497, xw498, rfl, rfl, by decide⟩
theorem kL_law_48 : xCV mL_law 48 mX11_put 3 11 := ⟨xC0.mk eX11_put (Nat.le_of_ble_eq_true rfl) (Nat.le_of_ble_eq_true rfl), xw1223, xw1224, xw1225, rfl, rfl, by decide⟩
theorem kL_law_49 : xCV mL_law 49 mX10_fault 1 10 := ⟨xC0.mk eX10_fault (Nat.le_of_ble_eq_true rfl) (Nat.le_of_ble_eq_true rfl), xw504, xw505, xw506, rfl, rfl, by decide⟩
theorem kL_law_52 : xCV mL_law 52 mX11_fault 1 11 := ⟨xC0.mk eX11_fault (Nat.le_of_ble_eq_true rfl) (Nat.le_of_ble_eq_true rfl), xw1227, xw1228, xw1229, rfl, rfl, by decide⟩
theorem kL_law_53 : xCV mL_law 53 mX10_sheet 1 10 := ⟨xC0.mk eX10_sheet (Nat.le_of_ble_eq_true rfl) (Nat.le_of_ble_eq_true rfl), xw624, xw625, xw626, rfl, rfl, by decide⟩
theorem kL_law_56 : xCV mL_law 56 mX11_sheet 1 11 := ⟨xC0.mk eX11_sheet (Nat.le_of_ble_eq_true rfl) (Nat.le_of_ble_eq_true rfl), xw1288, xw1289, xw1290, rfl, rfl, by decide⟩
theorem kL_law_57 : xCV mL_law 57 mX10_write 1 10 := ⟨xC0.mk eX10_write (Nat.le_of_ble_eq_true rfl) (Nat.le_of_ble_eq_true rfl), xw640, xw641, xw642, rfl, rfl, by decide⟩
theorem kL_law_60 : xCV mL_law 60 mX11_write 1 11 := ⟨xC0.mk eX11_write (Nat.le_of_ble_eq_true rfl) (Nat.le_of_ble_eq_true rfl), xw1296, xw1297, xw1298, rfl, rfl, by decide⟩
theorem kL_law_61 : xCV mL_law 61 mX10_frame 2 10 := ⟨xC0.mk eX10_frame (Nat.le_of_ble_eq_true rfl) (Nat.le_of_ble_eq_true rfl), xw678, xw679, xw680, rfl, rfl, by decide⟩
theorem kL_law_64 : xCV mL_law 64 mX11_frame 2 11 := ⟨xC0.mk eX11_frame (Nat.le_of_ble_eq_true rfl) (Nat.le_of_ble_eq_true rfl), xw1321, xw1322, xw1323, rfl, rfl, by decide⟩
theorem kL_law_65 : xCV mL_law 65 mX10_place 2 10 := ⟨xC0.mk eX10_place (Nat.le_of_ble_eq_true rfl) (Nat.le_of_ble_eq_true rfl), xw694, xw695, xw696, rfl, rfl, by decide⟩
theorem kL_law_68 : xCV mL_law 68 mX11_place 2 11 := ⟨xC0.mk eX11_place (Nat.le_of_ble_eq_true rfl) (Nat.le_of_ble_eq_true rfl), xw1357, xw1358, xw1359, rfl, rfl, by decide⟩
theorem kL_law_69 : xCV mL_law 69 mX10_mark 2 10 := ⟨xC0.mk eX10_mark (Nat.le_of_ble_eq_true rfl) (Nat.le_of_ble_eq_true rfl), xw722, xw723, xw724, rfl, rfl, by decide⟩
theorem kL_law_72 : xCV mL_law 72 mX11_mark 2 11 := ⟨xC0.mk eX11_mark (Nat.le_of_ble_eq_true rfl) (Nat.le_of_ble_eq_true rfl), xw1365, xw1366, xw1367, rfl, rfl, by decide⟩
theorem kL_law_73 : xCV mL_law 73 mX10_set 1 10 := ⟨xC0.mk eX10_set (Nat.le_of_ble_eq_true rfl) (Nat.le_of_ble_eq_true rfl), xw745, xw746, xw747, rfl, rfl, by decide⟩
theorem kL_law_76 : xCV mL_law 76 mX11_set 1 11 := ⟨xC0.mk eX11_set (Nat.le_of_ble_eq_true rfl) (Nat.le_of_ble_eq_true rfl), xw1381, xw1382, xw1383, rfl, rfl, by decide⟩
theorem kL_law_77 : xCV mL_law 77 mX10_lift 1 10 := ⟨xC0.mk eX10_lift (Nat.le_of_ble_eq_true rfl) (Nat.le_of_ble_eq_true rfl), xw833, xw834, xw835, rfl, rfl, by decide⟩
theorem kL_law_80 : xCV mL_law 80 mX11_lift 1 11 := ⟨xC0.mk eX11_lift (Nat.le_of_ble_eq_true rfl) (Nat.le_of_ble_eq_true rfl), xw1433, xw1434, xw1435, rfl, rfl, by decide⟩
theorem kL_law_81 : xCV mL_law 81 mX10_all 1 10 := ⟨xC0.mk eX10_all (Nat.le_of_ble_eq_true rfl) (Nat.le_of_ble_eq_true rfl), xw838, xw839, xw840, rfl, rfl, by decide⟩
theorem kL_law_84 : xCV mL_law 84 mX11_all 1 11 := ⟨xC0.mk eX11_all (Nat.le_of_ble_eq_true rfl) (Nat.le_of_ble_eq_true rfl), xw1441, xw1442, xw1443, rfl, rfl, by decide⟩
theorem kL_law_85 : xCV mL_law 85 mX10_rule 1 10 := ⟨xC0.mk eX10_rule (Nat.le_of_ble_eq_true rfl) (Nat.le_of_ble_eq_true rfl), xw859, xw860, xw861, rfl, rfl, by decide⟩
theorem kL_law_88 : xCV mL_law 88 mX11_rule 1 11 := ⟨xC0.mk eX11_rule (Nat.le_of_ble_eq_true rfl) (Nat.le_of_ble_eq_true rfl), xw1456, xw1457, xw1458, rfl, rfl, by decide⟩
theorem kL_law_89 : xCV mL_law 89 mX10_undo 1 10 := ⟨xC0.mk eX10_undo (Nat.le_of_ble_eq_true rfl) (Nat.le_of_ble_eq_true rfl), xw863, xw864, xw865, rfl, rfl, by decide⟩
theorem kL_law_92 : xCV mL_law 92 mX11_undo 1 11 := ⟨xC0.mk eX11_undo (Nat.le_of_ble_eq_true rfl) (Nat.le_of_ble_eq_true rfl), xw1369, xw1370, xw1371, rfl, rfl, by decide⟩
theorem kL_law_93 : xCV mL_law 93 mX10_keep 1 10 := ⟨xC0.mk eX10_keep (Nat.le_of_ble_eq_true rfl) (Nat.le_of_ble_eq_true rfl), xw871, xw872, xw873, rfl, rfl, by decide⟩
theorem kL_law_96 : xCV mL_law 96 mX11_keep 1 11 := ⟨xC0.mk eX11_keep (Nat.le_of_ble_eq_true rfl) (Nat.le_of_ble_eq_true rfl), xw1373, xw1374, xw1375, rfl, rfl, by decide⟩
theorem kL_law_97 : xCV mL_law 97 mX10_on 1 10 := ⟨xC0.mk eX10_on (Nat.le_of_ble_eq_true rfl) (Nat.le_of_ble_eq_true rfl), xw879, xw880, xw881, rfl, rfl, by decide⟩
theorem kL_law_100 : xCV mL_law 100 mX11_on 1 11 := ⟨xC0.mk eX11_on (Nat.le_of_ble_eq_true rfl) (Nat.le_of_ble_eq_true rfl), xw1377, xw1378, xw1379, rfl, rfl, by decide⟩
theorem kL_law_101 : xCV mL_law 101 mX10_free 3 10 := ⟨xC0.mk eX10_free (Nat.le_of_ble_eq_true rfl) (Nat.le_of_ble_eq_true rfl), xw883, xw884, xw885, rfl, rfl, by decide⟩
theorem kL_law_104 : xCV mL_law 104 mX11_free 3 11 := ⟨xC0.mk eX11_free (Nat.le_of_ble_eq_true rfl) (Nat.le_of_ble_eq_true rfl), xw1460, xw1461, xw1462, rfl, rfl, by decide⟩
theorem kL_law_105 : xCV mL_law 105 mX10_seen 3 10 := ⟨xC0.mk eX10_seen (Nat.le_of_ble_eq_true rfl) (Nat.le_of_ble_eq_true rfl), xw896, xw897, xw898, rfl, rfl, by decide⟩
theorem kL_law_108 : xCV mL_law 108 mX11_seen 3 11 := ⟨xC0.mk eX11_seen (Nat.le_of_ble_eq_true rfl) (Nat.le_of_ble_eq_true rfl), xw1468, xw1469, xw1470, rfl, rfl, by decide⟩
theorem kL_law_109 : xCV mL_law 109 mX10_point 3 10 := ⟨xC0.mk eX10_point (Nat.le_of_ble_eq_true rfl) (Nat.le_of_ble_eq_true rfl), xw918, xw919, xw920, rfl, rfl, by decide⟩
theorem kL_law_112 : xCV mL_law 112 mX11_point 3 11 := ⟨xC0.mk eX11_point (Nat.le_of_ble_eq_true rfl) (Nat.le_of_ble_eq_true rfl), xw1483, xw1484, xw1485, rfl, rfl, by decide⟩
theorem kL_law_113 : xCV mL_law 113 mX10_used 1 10 := ⟨xC0.mk eX10_used (Nat.le_of_ble_eq_true rfl) (Nat.le_of_ble_eq_true rfl), xw922, xw923, xw924, rfl, rfl, by decide⟩
theorem kL_law_116 : xCV mL_law 116 mX11_used 1 11 := ⟨xC0.mk eX11_used (Nat.le_of_ble_eq_true rfl) (Nat.le_of_ble_eq_true rfl), xw1487, xw1488, xw1489, rfl, rfl, by decide⟩
theorem kL_law_117 : xCV mL_law 117 mX10_takes 1 10 := ⟨xC0.mk eX10_takes (Nat.le_of_ble_eq_true rfl) (Nat.le_of_ble_eq_true rfl), xw933, xw934, xw935, rfl, rfl, by decide⟩
theorem kL_law_120 : xCV mL_law 120 mX11_takes 1 11 := ⟨xC0.mk eX11_takes (Nat.le_of_ble_eq_true rfl) (Nat.le_of_ble_eq_true rfl), xw1495, xw1496, xw1497, rfl, rfl, by decide⟩
theorem kL_law_121 : xCV mL_law 121 mX10_would 2 10 := ⟨xC0.mk eX10_would (Nat.le_of_ble_eq_true rfl) (Nat.le_of_ble_eq_true rfl), xw942, xw943, xw944, rfl, rfl, by decide⟩
theorem kL_law_124 : xCV mL_law 124 mX11_would 2 11 := ⟨xC0.mk eX11_would (Nat.le_of_ble_eq_true rfl) (Nat.le_of_ble_eq_true rfl), xw1499, xw1500, xw1501, rfl, rfl, by decide⟩
theorem kL_law_125 : xCV mL_law 125 mX10_best 0 10 := ⟨xC0.mk eX10_best (Nat.le_of_ble_eq_true rfl) (Nat.le_of_ble_eq_true rfl), xw946, xw947, xw948, rfl, rfl, by decide⟩
theorem kL_law_129 : xCV mL_law 129 mX11_best 0 11 := ⟨xC0.mk eX11_best (Nat.le_of_ble_eq_true rfl) (Nat.le_of_ble_eq_true rfl), xw1507, xw1508, xw1509, rfl, rfl, by decide⟩
theorem kL_law_130 : xCV mL_law 130 mX10_lots 2 10 := ⟨xC0.mk eX10_lots (Nat.le_of_ble_eq_true rfl) (Nat.le_of_ble_eq_true rfl), xw958, xw959, xw960, rfl, rfl, by decide⟩
theorem kL_law_133 : xCV mL_law 133 mX11_lots 2 11 := ⟨xC0.mk eX11_lots (Nat.le_of_ble_eq_true rfl) (Nat.le_of_ble_eq_true rfl), xw1514, xw1515, xw1516, rfl, rfl, by decide⟩
theorem kL_law_134 : xCV mL_law 134 mX10_asked 0 10 := ⟨xC0.mk eX10_asked (Nat.le_of_ble_eq_true rfl) (Nat.le_of_ble_eq_true rfl), xw969, xw970, xw971, rfl, rfl, by decide⟩
theorem kL_law_137 : xCV mL_law 137 mX11_asked 0 11 := ⟨xC0.mk eX11_asked (Nat.le_of_ble_eq_true rfl) (Nat.le_of_ble_eq_true rfl), xw1162, xw1163, xw1164, rfl, rfl, by decide⟩
theorem kL_law_138 : xCV mL_law 138 mX10_count 1 10 := ⟨xC0.mk eX10_count (Nat.le_of_ble_eq_true rfl) (Nat.le_of_ble_eq_true rfl), xw973, xw974, xw975, rfl, rfl, by decide⟩
theorem kL_law_141 : xCV mL_law 141 mX11_count 1 11 := ⟨xC0.mk eX11_count (Nat.le_of_ble_eq_true rfl) (Nat.le_of_ble_eq_true rfl), xw1528, xw1529, xw1530, rfl, rfl, by decide⟩
theorem kL_law_142 : xCV mL_law 142 mX10_finding 0 10 := ⟨xC0.mk eX10_finding (Nat.le_of_ble_eq_true rfl) (Nat.le_of_ble_eq_true rfl), xw1001, xw1002, xw1003, rfl, rfl, by decide⟩
theorem kL_law_145 : xCV mL_law 145 mX11_finding 0 11 := ⟨xC0.mk eX11_finding (Nat.le_of_ble_eq_true rfl) (Nat.le_of_ble_eq_true rfl), xw1166, xw1167, xw1168, rfl, rfl, by decide⟩
theorem kL_law_146 : xCV mL_law 146 mX10_findings 1 10 := ⟨xC0.mk eX10_findings (Nat.le_of_ble_eq_true rfl) (Nat.le_of_ble_eq_true rfl), xw1005, xw1006, xw1007, rfl, rfl, by decide⟩
theorem kL_law_149 : xCV mL_law 149 mX11_findings 1 11 := ⟨xC0.mk eX11_findings (Nat.le_of_ble_eq_true rfl) (Nat.le_of_ble_eq_true rfl), xw1170, xw1171, xw1172, rfl, rfl, by decide⟩
theorem kL_law_150 : xCV mL_law 150 mX10_digest 0 10 := ⟨xC0.mk eX10_digest (Nat.le_of_ble_eq_true rfl) (Nat.le_of_ble_eq_true rfl), xw1009, xw1010, xw1011, rfl, rfl, by decide⟩
theorem kL_law_154 : xCV mL_law 154 mX11_digest 0 11 := ⟨xC0.mk eX11_digest (Nat.le_of_ble_eq_true rfl) (Nat.le_of_ble_eq_true rfl), xw1544, xw1545, xw1546, rfl, rfl, by decide⟩
theorem nX2_init_9 : xNW mX2_init 9 4 := ⟨xw321, xw322, xw98, rfl, by decide, rfl, inX4, tyX4, tyX4_ok, by decide⟩
theorem nX3_init_9 : xNW mX3_init 9 7 := ⟨xw166, xw167, xw94, rfl, by decide, rfl, inX7, tyX7, tyX7_ok, by decide⟩
theorem nX7_init_9 : xNW mX7_init 9 0 := ⟨xw172, xw174, xw95, rfl, by decide, rfl, inX0, tyX0, tyX0_ok, by decide⟩
theorem nX8_init_9 : xNW mX8_init 9 1 := ⟨xw127, xw128, xw92, rfl, by decide, rfl, inX1, tyX1, tyX1_ok, by decide⟩
theorem nX10_init_21 : xNW mX10_init 21 8 := ⟨xw120, xw122, xw91, rfl, by decide, rfl, inX8, tyX8, tyX8_ok, by decide⟩
theorem nX10_init_36 : xNW mX10_init 36 3 := ⟨xw160, xw161, xw93, rfl, by decide, rfl, inX3, tyX3, tyX3_ok, by decide⟩
theorem nX10_init_43 : xNW mX10_init 43 6 := ⟨xw300, xw301, xw96, rfl, by decide, rfl, inX6, tyX6, tyX6_ok, by decide⟩
theorem nX10_init_50 : xNW mX10_init 50 2 := ⟨xw315, xw316, xw97, rfl, by decide, rfl, inX2, tyX2, tyX2_ok, by decide⟩
theorem nX10_init_57 : xNW mX10_init 57 1 := ⟨xw352, xw128, xw92, rfl, by decide, rfl, inX1, tyX1, tyX1_ok, by decide⟩
theorem nX10_init_68 : xNW mX10_init 68 7 := ⟨xw354, xw167, xw94, rfl, by decide, rfl, inX7, tyX7, tyX7_ok, by decide⟩
theorem nX10_init_9 : xNW mX10_init 9 5 := ⟨xw116, xw356, xw99, rfl, by decide, rfl, inX5, tyX5, tyX5_ok, by decide⟩
theorem nX10_init_15 : xNW mX10_init 15 9 := ⟨xw118, xw370, xw100, rfl, by decide, rfl, inX9, tyX9, tyX9_ok, by decide⟩
theorem nL_law_7 : xNW mL_law 7 10 := ⟨xw108, xw109, xw90, rfl, by decide, rfl, inX10, tyX10, tyX10_ok, by decide⟩
theorem nL_law_10 : xNW mL_law 10 11 := ⟨xw1020, xw1021, xw101, rfl, by decide, rfl, inX11, tyX11, tyX11_ok, by decide⟩
end
